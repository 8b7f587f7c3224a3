theorem am_nil {big : List Cond} : ∀ w ∈ ([] : List Cond), w ∈ big := fun w h => by cases h
theorem am_cons {big a : List Cond} {c : Cond} (h : c ∈ big) (ha : ∀ w ∈ a, w ∈ big) : ∀ w ∈ c :: a, w ∈ big := fun w q => (List.mem_cons.mp q).elim (fun e => e ▸ h) (ha w)
theorem am_app {big a b : List Cond} (ha : ∀ w ∈ a, w ∈ big) (hb : ∀ w ∈ b, w ∈ big) : ∀ w ∈ a ++ b, w ∈ big := fun w q => (List.mem_append.mp q).elim (ha w) (hb w)
theorem am_at {big l : List Cond} (h : ∀ w ∈ l, w ∈ big) {w : Cond} (j : Nat) (q : l[j]? = some w) : w ∈ big := h w (List.mem_of_getElem? q)
theorem goodIn_m {big ws : List Cond} (hm : ∀ w ∈ ws, w ∈ big) (h : ws.all goodWord = true) : GoodIn big ws := fun w hw => ⟨hm w hw, good_of_word (List.all_eq_true.mp h w hw)⟩
theorem in_wsX0_worksIn_0 : ∀ w ∈ ([cw_6, cw_1, cw_10, cw_11, cw_12, cw_13, cw_14, cw_2] : List Cond), w ∈ wsX0_worksIn := fun w h => by
  unfold wsX0_worksIn
  exact List.mem_cons_of_mem _ (List.mem_append_left _ h)
theorem in_wsX0_worksIn_1 : ∀ w ∈ wsX00, w ∈ wsX0_worksIn := fun w h => by
  unfold wsX0_worksIn
  exact List.mem_cons_of_mem _ (List.mem_append_right _ h)
theorem in_wsX0_worksIn_c : ∀ w ∈ [(.code yX0_worksIn cX0_worksIn 3 (some .boolean) : Cond)], w ∈ wsX0_worksIn := fun w h => by
  rw [List.mem_singleton.mp h]; unfold wsX0_worksIn
  exact List.mem_cons_self
theorem in_wsX0_hasTown_0 : ∀ w ∈ ([cw_2] : List Cond), w ∈ wsX0_hasTown := fun w h => by
  unfold wsX0_hasTown
  exact List.mem_cons_of_mem _ (List.mem_append_left _ h)
theorem in_wsX0_hasTown_1 : ∀ w ∈ wsX00, w ∈ wsX0_hasTown := fun w h => by
  unfold wsX0_hasTown
  exact List.mem_cons_of_mem _ (List.mem_append_right _ h)
theorem in_wsX0_hasTown_c : ∀ w ∈ [(.code yX0_hasTown cX0_hasTown 2 (some .boolean) : Cond)], w ∈ wsX0_hasTown := fun w h => by
  rw [List.mem_singleton.mp h]; unfold wsX0_hasTown
  exact List.mem_cons_self
theorem gw_wsX0_hasTown : wsX0_hasTown.all goodWord = true := by decide +kernel
theorem in_wsX0_gainIn_0 : ∀ w ∈ ([cw_7, cw_15, cw_16, cw_17, cw_13, cw_18, cw_6, cw_1, cw_10, cw_11, cw_12, cw_14, cw_2] : List Cond), w ∈ wsX0_gainIn := fun w h => by
  unfold wsX0_gainIn
  exact List.mem_cons_of_mem _ (List.mem_append_left _ h)
theorem in_wsX0_gainIn_1 : ∀ w ∈ wsX00, w ∈ wsX0_gainIn := fun w h => by
  unfold wsX0_gainIn
  exact List.mem_cons_of_mem _ (List.mem_append_right _ h)
theorem in_wsX0_gainIn_c : ∀ w ∈ [(.code yX0_gainIn cX0_gainIn 3 (some .int) : Cond)], w ∈ wsX0_gainIn := fun w h => by
  rw [List.mem_singleton.mp h]; unfold wsX0_gainIn
  exact List.mem_cons_self
theorem gw_wsX0_worksIn : wsX0_worksIn.all goodWord = true := by decide +kernel
theorem in_wsX0_walksFrom_0 : ∀ w ∈ ([cw_4, cw_19, cw_20, cw_21, cw_13, cw_22, cw_3, cw_8, cw_9] : List Cond), w ∈ wsX0_walksFrom := fun w h => by
  unfold wsX0_walksFrom
  exact List.mem_cons_of_mem _ (List.mem_append_left _ h)
theorem in_wsX0_walksFrom_1 : ∀ w ∈ wsX00, w ∈ wsX0_walksFrom := fun w h => by
  unfold wsX0_walksFrom
  exact List.mem_cons_of_mem _ (List.mem_append_right _ h)
theorem in_wsX0_walksFrom_c : ∀ w ∈ [(.code yX0_walksFrom cX0_walksFrom 3 (some .int) : Cond)], w ∈ wsX0_walksFrom := fun w h => by
  rw [List.mem_singleton.mp h]; unfold wsX0_walksFrom
  exact List.mem_cons_self
theorem in_wsX0_neighbours_0 : ∀ w ∈ ([cw_3, cw_8, cw_9] : List Cond), w ∈ wsX0_neighbours := fun w h => by
  unfold wsX0_neighbours
  exact List.mem_cons_of_mem _ (List.mem_append_left _ h)
theorem in_wsX0_neighbours_1 : ∀ w ∈ wsX00, w ∈ wsX0_neighbours := fun w h => by
  unfold wsX0_neighbours
  exact List.mem_cons_of_mem _ (List.mem_append_right _ h)
theorem in_wsX0_neighbours_c : ∀ w ∈ [(.code yX0_neighbours cX0_neighbours 5 (some .int) : Cond)], w ∈ wsX0_neighbours := fun w h => by
  rw [List.mem_singleton.mp h]; unfold wsX0_neighbours
  exact List.mem_cons_self
theorem gw_wsX0_neighbours : wsX0_neighbours.all goodWord = true := by decide +kernel
theorem in_wsX0_fillExits_0 : ∀ w ∈ ([cw_2, cw_23, cw_24, cw_25, cw_13, cw_26, cw_4, cw_19, cw_20, cw_21, cw_22, cw_3, cw_8, cw_9] : List Cond), w ∈ wsX0_fillExits := fun w h => by
  unfold wsX0_fillExits
  exact List.mem_cons_of_mem _ (List.mem_append_left _ h)
theorem in_wsX0_fillExits_1 : ∀ w ∈ wsX00, w ∈ wsX0_fillExits := fun w h => by
  unfold wsX0_fillExits
  exact List.mem_cons_of_mem _ (List.mem_append_right _ h)
theorem in_wsX0_fillExits_c : ∀ w ∈ [(.code yX0_fillExits cX0_fillExits 4 none : Cond)], w ∈ wsX0_fillExits := fun w h => by
  rw [List.mem_singleton.mp h]; unfold wsX0_fillExits
  exact List.mem_cons_self
theorem gw_wsX0_walksFrom : wsX0_walksFrom.all goodWord = true := by decide +kernel
theorem in_wsX1_walks_0 : ∀ w ∈ ([cw_27, cw_32, cw_35, cw_24, cw_25, cw_13, cw_26, cw_4, cw_19, cw_20, cw_21, cw_22, cw_3, cw_8, cw_9] : List Cond), w ∈ wsX1_walks := fun w h => by
  unfold wsX1_walks
  exact List.mem_cons_of_mem _ (List.mem_append_left _ (List.mem_append_left _ h))
theorem in_wsX1_walks_1 : ∀ w ∈ wsX10, w ∈ wsX1_walks := fun w h => by
  unfold wsX1_walks
  exact List.mem_cons_of_mem _ (List.mem_append_left _ (List.mem_append_right _ h))
theorem in_wsX1_walks_2 : ∀ w ∈ wsX00, w ∈ wsX1_walks := fun w h => by
  unfold wsX1_walks
  exact List.mem_cons_of_mem _ (List.mem_append_right _ h)
theorem in_wsX1_walks_c : ∀ w ∈ [(.code yX1_walks cX1_walks 2 (some .int) : Cond)], w ∈ wsX1_walks := fun w h => by
  rw [List.mem_singleton.mp h]; unfold wsX1_walks
  exact List.mem_cons_self
theorem in_wsX1_stayMonth_0 : ∀ w ∈ ([cw_27, cw_28, cw_31, cw_30, cw_29, cw_36, cw_37, cw_38, cw_13, cw_39, cw_7, cw_15, cw_16, cw_17, cw_18, cw_6, cw_1, cw_10, cw_11, cw_12, cw_14, cw_2, cw_40] : List Cond), w ∈ wsX1_stayMonth := fun w h => by
  unfold wsX1_stayMonth
  exact List.mem_cons_of_mem _ (List.mem_append_left _ (List.mem_append_left _ h))
theorem in_wsX1_stayMonth_1 : ∀ w ∈ wsX10, w ∈ wsX1_stayMonth := fun w h => by
  unfold wsX1_stayMonth
  exact List.mem_cons_of_mem _ (List.mem_append_left _ (List.mem_append_right _ h))
theorem in_wsX1_stayMonth_2 : ∀ w ∈ wsX00, w ∈ wsX1_stayMonth := fun w h => by
  unfold wsX1_stayMonth
  exact List.mem_cons_of_mem _ (List.mem_append_right _ h)
theorem in_wsX1_stayMonth_c : ∀ w ∈ [(.code yX1_stayMonth cX1_stayMonth 3 (some .int) : Cond)], w ∈ wsX1_stayMonth := fun w h => by
  rw [List.mem_singleton.mp h]; unfold wsX1_stayMonth
  exact List.mem_cons_self
theorem gw_wsX0_gainIn : wsX0_gainIn.all goodWord = true := by decide +kernel
theorem in_wsX2_init_0 : ∀ w ∈ ([.methodLink RX2 3 objectInit, .instanceMethod objectInit, .code objectInit ⟨#[0xb1]⟩ 1 none, .classLink RX2 9 RX1, .fieldLink RX2 11 "JourneyRoads$Past" "kept" "[LJourneyRoads$Journey;", .instantiable RX1 7, .initialized RX1, .instanceMethod yX1_init, .code yX1_init cX1_init 1 none, .methodLink RX1 1 objectInit] : List Cond), w ∈ wsX2_init := fun w h => by
  unfold wsX2_init
  exact List.mem_cons_of_mem _ (List.mem_append_left _ (List.mem_append_left _ h))
theorem in_wsX2_init_1 : ∀ w ∈ wsX20, w ∈ wsX2_init := fun w h => by
  unfold wsX2_init
  exact List.mem_cons_of_mem _ (List.mem_append_left _ (List.mem_append_right _ h))
theorem in_wsX2_init_2 : ∀ w ∈ wsX10, w ∈ wsX2_init := fun w h => by
  unfold wsX2_init
  exact List.mem_cons_of_mem _ (List.mem_append_right _ h)
theorem in_wsX2_init_c : ∀ w ∈ [(.code yX2_init cX2_init 2 none : Cond)], w ∈ wsX2_init := fun w h => by
  rw [List.mem_singleton.mp h]; unfold wsX2_init
  exact List.mem_cons_self
theorem in_wsX1_init_0 : ∀ w ∈ ([.methodLink RX1 1 objectInit, .instanceMethod objectInit, .code objectInit ⟨#[0xb1]⟩ 1 none] : List Cond), w ∈ wsX1_init := fun w h => by
  unfold wsX1_init
  exact List.mem_cons_of_mem _ h
theorem in_wsX1_init_c : ∀ w ∈ [(.code yX1_init cX1_init 1 none : Cond)], w ∈ wsX1_init := fun w h => by
  rw [List.mem_singleton.mp h]; unfold wsX1_init
  exact List.mem_cons_self
theorem gw_wsX1_init : wsX1_init.all goodWord = true := by decide +kernel
theorem in_wsX2_push_0 : ∀ w ∈ ([cw_42, cw_41, cw_43, cw_44, cw_45, cw_46, cw_47, cw_48, cw_49, cw_50, cw_51, cw_52, cw_27, cw_28, cw_29, cw_30, cw_31, cw_32, cw_33] : List Cond), w ∈ wsX2_push := fun w h => by
  unfold wsX2_push
  exact List.mem_cons_of_mem _ (List.mem_append_left _ (List.mem_append_left _ h))
theorem in_wsX2_push_1 : ∀ w ∈ wsX20, w ∈ wsX2_push := fun w h => by
  unfold wsX2_push
  exact List.mem_cons_of_mem _ (List.mem_append_left _ (List.mem_append_right _ h))
theorem in_wsX2_push_2 : ∀ w ∈ wsX10, w ∈ wsX2_push := fun w h => by
  unfold wsX2_push
  exact List.mem_cons_of_mem _ (List.mem_append_right _ h)
theorem in_wsX2_push_c : ∀ w ∈ [(.code yX2_push cX2_push 2 none : Cond)], w ∈ wsX2_push := fun w h => by
  rw [List.mem_singleton.mp h]; unfold wsX2_push
  exact List.mem_cons_self
theorem in_wsX2_loseOldest_0 : ∀ w ∈ ([cw_41, cw_42] : List Cond), w ∈ wsX2_loseOldest := fun w h => by
  unfold wsX2_loseOldest
  exact List.mem_cons_of_mem _ (List.mem_append_left _ h)
theorem in_wsX2_loseOldest_1 : ∀ w ∈ wsX20, w ∈ wsX2_loseOldest := fun w h => by
  unfold wsX2_loseOldest
  exact List.mem_cons_of_mem _ (List.mem_append_right _ h)
theorem in_wsX2_loseOldest_c : ∀ w ∈ [(.code yX2_loseOldest cX2_loseOldest 3 none : Cond)], w ∈ wsX2_loseOldest := fun w h => by
  rw [List.mem_singleton.mp h]; unfold wsX2_loseOldest
  exact List.mem_cons_self
theorem gw_wsX2_loseOldest : wsX2_loseOldest.all goodWord = true := by decide +kernel
theorem in_wsX1_copy_0 : ∀ w ∈ ([cw_27, cw_28, cw_29, cw_30, cw_31, cw_32, cw_33] : List Cond), w ∈ wsX1_copy := fun w h => by
  unfold wsX1_copy
  exact List.mem_cons_of_mem _ (List.mem_append_left _ h)
theorem in_wsX1_copy_1 : ∀ w ∈ wsX10, w ∈ wsX1_copy := fun w h => by
  unfold wsX1_copy
  exact List.mem_cons_of_mem _ (List.mem_append_right _ h)
theorem in_wsX1_copy_c : ∀ w ∈ [(.code yX1_copy cX1_copy 2 none : Cond)], w ∈ wsX1_copy := fun w h => by
  rw [List.mem_singleton.mp h]; unfold wsX1_copy
  exact List.mem_cons_self
theorem gw_wsX1_copy : wsX1_copy.all goodWord = true := by decide +kernel
theorem in_wsX2_pop_0 : ∀ w ∈ ([cw_42, cw_41, cw_48, cw_49, cw_50, cw_51, cw_52, cw_27, cw_28, cw_29, cw_30, cw_31, cw_32, cw_33] : List Cond), w ∈ wsX2_pop := fun w h => by
  unfold wsX2_pop
  exact List.mem_cons_of_mem _ (List.mem_append_left _ (List.mem_append_left _ h))
theorem in_wsX2_pop_1 : ∀ w ∈ wsX20, w ∈ wsX2_pop := fun w h => by
  unfold wsX2_pop
  exact List.mem_cons_of_mem _ (List.mem_append_left _ (List.mem_append_right _ h))
theorem in_wsX2_pop_2 : ∀ w ∈ wsX10, w ∈ wsX2_pop := fun w h => by
  unfold wsX2_pop
  exact List.mem_cons_of_mem _ (List.mem_append_right _ h)
theorem in_wsX2_pop_c : ∀ w ∈ [(.code yX2_pop cX2_pop 2 none : Cond)], w ∈ wsX2_pop := fun w h => by
  rw [List.mem_singleton.mp h]; unfold wsX2_pop
  exact List.mem_cons_self
theorem in_wsX3_fill_0 : ∀ w ∈ wsX3_fill_r1, w ∈ wsX3_fill := fun w h => by
  unfold wsX3_fill
  exact List.mem_cons_of_mem _ (List.mem_append_left _ (List.mem_append_left _ (List.mem_append_left _ h)))
theorem in_wsX3_fill_1 : ∀ w ∈ wsX3_fill_r2, w ∈ wsX3_fill := fun w h => by
  unfold wsX3_fill
  exact List.mem_cons_of_mem _ (List.mem_append_left _ (List.mem_append_left _ (List.mem_append_right _ h)))
theorem in_wsX3_fill_2 : ∀ w ∈ wsX30, w ∈ wsX3_fill := fun w h => by
  unfold wsX3_fill
  exact List.mem_cons_of_mem _ (List.mem_append_left _ (List.mem_append_right _ h))
theorem in_wsX3_fill_3 : ∀ w ∈ wsX00, w ∈ wsX3_fill := fun w h => by
  unfold wsX3_fill
  exact List.mem_cons_of_mem _ (List.mem_append_right _ h)
theorem in_wsX3_fill_c : ∀ w ∈ [(.code yX3_fill cX3_fill 7 none : Cond)], w ∈ wsX3_fill := fun w h => by
  rw [List.mem_singleton.mp h]; unfold wsX3_fill
  exact List.mem_cons_self
theorem in_wsX3_fillTown_0 : ∀ w ∈ wsX3_fillTown_r1, w ∈ wsX3_fillTown := fun w h => by
  unfold wsX3_fillTown
  exact List.mem_cons_of_mem _ (List.mem_append_left _ (List.mem_append_left _ (List.mem_append_left _ h)))
theorem in_wsX3_fillTown_1 : ∀ w ∈ wsX3_fillTown_r2, w ∈ wsX3_fillTown := fun w h => by
  unfold wsX3_fillTown
  exact List.mem_cons_of_mem _ (List.mem_append_left _ (List.mem_append_left _ (List.mem_append_right _ h)))
theorem in_wsX3_fillTown_2 : ∀ w ∈ wsX00, w ∈ wsX3_fillTown := fun w h => by
  unfold wsX3_fillTown
  exact List.mem_cons_of_mem _ (List.mem_append_left _ (List.mem_append_right _ h))
theorem in_wsX3_fillTown_3 : ∀ w ∈ wsX30, w ∈ wsX3_fillTown := fun w h => by
  unfold wsX3_fillTown
  exact List.mem_cons_of_mem _ (List.mem_append_right _ h)
theorem in_wsX3_fillTown_c : ∀ w ∈ [(.code yX3_fillTown cX3_fillTown 11 none : Cond)], w ∈ wsX3_fillTown := fun w h => by
  rw [List.mem_singleton.mp h]; unfold wsX3_fillTown
  exact List.mem_cons_self
theorem gw_wsX3_fillTown : wsX3_fillTown.all goodWord = true := by decide +kernel
theorem in_wsX3_mostFrom_0 : ∀ w ∈ ([cw_53] : List Cond), w ∈ wsX3_mostFrom := fun w h => by
  unfold wsX3_mostFrom
  exact List.mem_cons_of_mem _ (List.mem_append_left _ h)
theorem in_wsX3_mostFrom_1 : ∀ w ∈ wsX30, w ∈ wsX3_mostFrom := fun w h => by
  unfold wsX3_mostFrom
  exact List.mem_cons_of_mem _ (List.mem_append_right _ h)
theorem in_wsX3_mostFrom_c : ∀ w ∈ [(.code yX3_mostFrom cX3_mostFrom 5 (some .int) : Cond)], w ∈ wsX3_mostFrom := fun w h => by
  rw [List.mem_singleton.mp h]; unfold wsX3_mostFrom
  exact List.mem_cons_self
theorem gw_wsX3_mostFrom : wsX3_mostFrom.all goodWord = true := by decide +kernel
theorem in_wsX3_townBehind_0 : ∀ w ∈ wsX3_townBehind_r1, w ∈ wsX3_townBehind := fun w h => by
  unfold wsX3_townBehind
  exact List.mem_cons_of_mem _ (List.mem_append_left _ (List.mem_append_left _ (List.mem_append_left _ (List.mem_append_left _ h))))
theorem in_wsX3_townBehind_1 : ∀ w ∈ wsX3_townBehind_r2, w ∈ wsX3_townBehind := fun w h => by
  unfold wsX3_townBehind
  exact List.mem_cons_of_mem _ (List.mem_append_left _ (List.mem_append_left _ (List.mem_append_left _ (List.mem_append_right _ h))))
theorem in_wsX3_townBehind_2 : ∀ w ∈ wsX10, w ∈ wsX3_townBehind := fun w h => by
  unfold wsX3_townBehind
  exact List.mem_cons_of_mem _ (List.mem_append_left _ (List.mem_append_left _ (List.mem_append_right _ h)))
theorem in_wsX3_townBehind_3 : ∀ w ∈ wsX00, w ∈ wsX3_townBehind := fun w h => by
  unfold wsX3_townBehind
  exact List.mem_cons_of_mem _ (List.mem_append_left _ (List.mem_append_right _ h))
theorem in_wsX3_townBehind_4 : ∀ w ∈ wsX30, w ∈ wsX3_townBehind := fun w h => by
  unfold wsX3_townBehind
  exact List.mem_cons_of_mem _ (List.mem_append_right _ h)
theorem in_wsX3_townBehind_c : ∀ w ∈ [(.code yX3_townBehind cX3_townBehind 8 (some .int) : Cond)], w ∈ wsX3_townBehind := fun w h => by
  rw [List.mem_singleton.mp h]; unfold wsX3_townBehind
  exact List.mem_cons_self
theorem in_wsX3_staysFirst_0 : ∀ w ∈ ([cw_87, cw_88, cw_89, cw_90, cw_91, cw_92, cw_53, cw_93, cw_37, cw_38, cw_13, cw_39, cw_7, cw_15, cw_16, cw_17, cw_18, cw_6, cw_1, cw_10, cw_11, cw_12, cw_14, cw_2] : List Cond), w ∈ wsX3_staysFirst := fun w h => by
  unfold wsX3_staysFirst
  exact List.mem_cons_of_mem _ (List.mem_append_left _ (List.mem_append_left _ h))
theorem in_wsX3_staysFirst_1 : ∀ w ∈ wsX00, w ∈ wsX3_staysFirst := fun w h => by
  unfold wsX3_staysFirst
  exact List.mem_cons_of_mem _ (List.mem_append_left _ (List.mem_append_right _ h))
theorem in_wsX3_staysFirst_2 : ∀ w ∈ wsX30, w ∈ wsX3_staysFirst := fun w h => by
  unfold wsX3_staysFirst
  exact List.mem_cons_of_mem _ (List.mem_append_right _ h)
theorem in_wsX3_staysFirst_c : ∀ w ∈ [(.code yX3_staysFirst cX3_staysFirst 7 (some .boolean) : Cond)], w ∈ wsX3_staysFirst := fun w h => by
  rw [List.mem_singleton.mp h]; unfold wsX3_staysFirst
  exact List.mem_cons_self
theorem gw_wsX3_staysFirst : wsX3_staysFirst.all goodWord = true := by decide +kernel
theorem in_wsX7_exitsOf_c : ∀ w ∈ [(.code yX7_exitsOf cX7_exitsOf 4 (some .int) : Cond)], w ∈ wsX7_exitsOf := fun w h => by
  rw [List.mem_singleton.mp h]; unfold wsX7_exitsOf
  exact List.mem_cons_self
theorem gw_wsX7_exitsOf : wsX7_exitsOf.all goodWord = true := by decide +kernel
theorem in_wsX3_walksFirst_0 : ∀ w ∈ ([cw_94, cw_88, cw_89, cw_90, cw_91, cw_92, cw_53] : List Cond), w ∈ wsX3_walksFirst := fun w h => by
  unfold wsX3_walksFirst
  exact List.mem_cons_of_mem _ (List.mem_append_left _ (List.mem_append_left _ h))
theorem in_wsX3_walksFirst_1 : ∀ w ∈ wsX00, w ∈ wsX3_walksFirst := fun w h => by
  unfold wsX3_walksFirst
  exact List.mem_cons_of_mem _ (List.mem_append_left _ (List.mem_append_right _ h))
theorem in_wsX3_walksFirst_2 : ∀ w ∈ wsX30, w ∈ wsX3_walksFirst := fun w h => by
  unfold wsX3_walksFirst
  exact List.mem_cons_of_mem _ (List.mem_append_right _ h)
theorem in_wsX3_walksFirst_c : ∀ w ∈ [(.code yX3_walksFirst cX3_walksFirst 7 (some .int) : Cond)], w ∈ wsX3_walksFirst := fun w h => by
  rw [List.mem_singleton.mp h]; unfold wsX3_walksFirst
  exact List.mem_cons_self
theorem gw_wsX3_walksFirst : wsX3_walksFirst.all goodWord = true := by decide +kernel
theorem in_wsX3_monthsToMeet_0 : ∀ w ∈ ([cw_115, cw_116, cw_117, cw_118, cw_87, cw_109, cw_110, cw_91, cw_111, cw_119, cw_120, cw_121, cw_112, cw_113, cw_114] : List Cond), w ∈ wsX3_monthsToMeet := fun w h => by
  unfold wsX3_monthsToMeet
  exact List.mem_cons_of_mem _ (List.mem_append_left _ (List.mem_append_left _ (List.mem_append_left _ h)))
theorem in_wsX3_monthsToMeet_1 : ∀ w ∈ wsX30, w ∈ wsX3_monthsToMeet := fun w h => by
  unfold wsX3_monthsToMeet
  exact List.mem_cons_of_mem _ (List.mem_append_left _ (List.mem_append_left _ (List.mem_append_right _ h)))
theorem in_wsX3_monthsToMeet_2 : ∀ w ∈ wsX10, w ∈ wsX3_monthsToMeet := fun w h => by
  unfold wsX3_monthsToMeet
  exact List.mem_cons_of_mem _ (List.mem_append_left _ (List.mem_append_right _ h))
theorem in_wsX3_monthsToMeet_3 : ∀ w ∈ wsX00, w ∈ wsX3_monthsToMeet := fun w h => by
  unfold wsX3_monthsToMeet
  exact List.mem_cons_of_mem _ (List.mem_append_right _ h)
theorem in_wsX3_monthsToMeet_c : ∀ w ∈ [(.code yX3_monthsToMeet cX3_monthsToMeet 6 (some .int) : Cond)], w ∈ wsX3_monthsToMeet := fun w h => by
  rw [List.mem_singleton.mp h]; unfold wsX3_monthsToMeet
  exact List.mem_cons_self
theorem in_wsX3_union_c : ∀ w ∈ [(.code yX3_union cX3_union 3 (some .int) : Cond)], w ∈ wsX3_union := fun w h => by
  rw [List.mem_singleton.mp h]; unfold wsX3_union
  exact List.mem_cons_self
theorem gw_wsX3_union : wsX3_union.all goodWord = true := by decide +kernel
theorem in_wsX3_spendMonth_0 : ∀ w ∈ ([cw_109, cw_110, cw_91, cw_111, cw_112, cw_113, cw_114] : List Cond), w ∈ wsX3_spendMonth := fun w h => by
  unfold wsX3_spendMonth
  exact List.mem_cons_of_mem _ h
theorem in_wsX3_spendMonth_c : ∀ w ∈ [(.code yX3_spendMonth cX3_spendMonth 5 none : Cond)], w ∈ wsX3_spendMonth := fun w h => by
  rw [List.mem_singleton.mp h]; unfold wsX3_spendMonth
  exact List.mem_cons_self
theorem gw_wsX3_spendMonth : wsX3_spendMonth.all goodWord = true := by decide +kernel
theorem in_wsX4_fewestMonths_0 : ∀ w ∈ wsX4_fewestMonths_r1, w ∈ wsX4_fewestMonths := fun w h => by
  unfold wsX4_fewestMonths
  exact List.mem_cons_of_mem _ (List.mem_append_left _ (List.mem_append_left _ (List.mem_append_left _ (List.mem_append_left _ h))))
theorem in_wsX4_fewestMonths_1 : ∀ w ∈ wsX4_fewestMonths_r2, w ∈ wsX4_fewestMonths := fun w h => by
  unfold wsX4_fewestMonths
  exact List.mem_cons_of_mem _ (List.mem_append_left _ (List.mem_append_left _ (List.mem_append_left _ (List.mem_append_right _ h))))
theorem in_wsX4_fewestMonths_2 : ∀ w ∈ wsX40, w ∈ wsX4_fewestMonths := fun w h => by
  unfold wsX4_fewestMonths
  exact List.mem_cons_of_mem _ (List.mem_append_left _ (List.mem_append_left _ (List.mem_append_right _ h)))
theorem in_wsX4_fewestMonths_3 : ∀ w ∈ wsX10, w ∈ wsX4_fewestMonths := fun w h => by
  unfold wsX4_fewestMonths
  exact List.mem_cons_of_mem _ (List.mem_append_left _ (List.mem_append_right _ h))
theorem in_wsX4_fewestMonths_4 : ∀ w ∈ wsX00, w ∈ wsX4_fewestMonths := fun w h => by
  unfold wsX4_fewestMonths
  exact List.mem_cons_of_mem _ (List.mem_append_right _ h)
theorem in_wsX4_fewestMonths_c : ∀ w ∈ [(.code yX4_fewestMonths cX4_fewestMonths 8 (some .int) : Cond)], w ∈ wsX4_fewestMonths := fun w h => by
  rw [List.mem_singleton.mp h]; unfold wsX4_fewestMonths
  exact List.mem_cons_self
theorem in_wsX4_clear_c : ∀ w ∈ [(.code yX4_clear cX4_clear 2 none : Cond)], w ∈ wsX4_clear := fun w h => by
  rw [List.mem_singleton.mp h]; unfold wsX4_clear
  exact List.mem_cons_self
theorem gw_wsX4_clear : wsX4_clear.all goodWord = true := by decide +kernel
theorem in_wsX4_cell_c : ∀ w ∈ [(.code yX4_cell cX4_cell 2 (some .int) : Cond)], w ∈ wsX4_cell := fun w h => by
  rw [List.mem_singleton.mp h]; unfold wsX4_cell
  exact List.mem_cons_self
theorem gw_wsX4_cell : wsX4_cell.all goodWord = true := by decide +kernel
theorem in_wsX4_holds_0 : ∀ w ∈ ([cw_122, cw_123, cw_124, cw_125, cw_126, cw_127, cw_128] : List Cond), w ∈ wsX4_holds := fun w h => by
  unfold wsX4_holds
  exact List.mem_cons_of_mem _ (List.mem_append_left _ (List.mem_append_left _ h))
theorem in_wsX4_holds_1 : ∀ w ∈ wsX00, w ∈ wsX4_holds := fun w h => by
  unfold wsX4_holds
  exact List.mem_cons_of_mem _ (List.mem_append_left _ (List.mem_append_right _ h))
theorem in_wsX4_holds_2 : ∀ w ∈ wsX40, w ∈ wsX4_holds := fun w h => by
  unfold wsX4_holds
  exact List.mem_cons_of_mem _ (List.mem_append_right _ h)
theorem in_wsX4_holds_c : ∀ w ∈ [(.code yX4_holds cX4_holds 5 (some .boolean) : Cond)], w ∈ wsX4_holds := fun w h => by
  rw [List.mem_singleton.mp h]; unfold wsX4_holds
  exact List.mem_cons_self
theorem gw_wsX4_holds : wsX4_holds.all goodWord = true := by decide +kernel
theorem in_wsX4_spendMonth_0 : ∀ w ∈ wsX4_spendMonth_r1, w ∈ wsX4_spendMonth := fun w h => by
  unfold wsX4_spendMonth
  exact List.mem_cons_of_mem _ (List.mem_append_left _ (List.mem_append_left _ (List.mem_append_left _ h)))
theorem in_wsX4_spendMonth_1 : ∀ w ∈ wsX4_spendMonth_r2, w ∈ wsX4_spendMonth := fun w h => by
  unfold wsX4_spendMonth
  exact List.mem_cons_of_mem _ (List.mem_append_left _ (List.mem_append_left _ (List.mem_append_right _ h)))
theorem in_wsX4_spendMonth_2 : ∀ w ∈ wsX40, w ∈ wsX4_spendMonth := fun w h => by
  unfold wsX4_spendMonth
  exact List.mem_cons_of_mem _ (List.mem_append_left _ (List.mem_append_right _ h))
theorem in_wsX4_spendMonth_3 : ∀ w ∈ wsX00, w ∈ wsX4_spendMonth := fun w h => by
  unfold wsX4_spendMonth
  exact List.mem_cons_of_mem _ (List.mem_append_right _ h)
theorem in_wsX4_spendMonth_c : ∀ w ∈ [(.code yX4_spendMonth cX4_spendMonth 8 none : Cond)], w ∈ wsX4_spendMonth := fun w h => by
  rw [List.mem_singleton.mp h]; unfold wsX4_spendMonth
  exact List.mem_cons_self
theorem gw_wsX4_spendMonth : wsX4_spendMonth.all goodWord = true := by decide +kernel
theorem in_wsX4_isEmpty_0 : ∀ w ∈ ([cw_124] : List Cond), w ∈ wsX4_isEmpty := fun w h => by
  unfold wsX4_isEmpty
  exact List.mem_cons_of_mem _ (List.mem_append_left _ h)
theorem in_wsX4_isEmpty_1 : ∀ w ∈ wsX40, w ∈ wsX4_isEmpty := fun w h => by
  unfold wsX4_isEmpty
  exact List.mem_cons_of_mem _ (List.mem_append_right _ h)
theorem in_wsX4_isEmpty_c : ∀ w ∈ [(.code yX4_isEmpty cX4_isEmpty 5 (some .boolean) : Cond)], w ∈ wsX4_isEmpty := fun w h => by
  rw [List.mem_singleton.mp h]; unfold wsX4_isEmpty
  exact List.mem_cons_self
theorem gw_wsX4_isEmpty : wsX4_isEmpty.all goodWord = true := by decide +kernel
theorem in_wsX4_walkAll_0 : ∀ w ∈ ([cw_122, cw_125, cw_126, cw_127, cw_128, cw_131, cw_132, cw_133, cw_134, cw_124, cw_129, cw_130] : List Cond), w ∈ wsX4_walkAll := fun w h => by
  unfold wsX4_walkAll
  exact List.mem_cons_of_mem _ (List.mem_append_left _ (List.mem_append_left _ h))
theorem in_wsX4_walkAll_1 : ∀ w ∈ wsX00, w ∈ wsX4_walkAll := fun w h => by
  unfold wsX4_walkAll
  exact List.mem_cons_of_mem _ (List.mem_append_left _ (List.mem_append_right _ h))
theorem in_wsX4_walkAll_2 : ∀ w ∈ wsX40, w ∈ wsX4_walkAll := fun w h => by
  unfold wsX4_walkAll
  exact List.mem_cons_of_mem _ (List.mem_append_right _ h)
theorem in_wsX4_walkAll_c : ∀ w ∈ [(.code yX4_walkAll cX4_walkAll 5 none : Cond)], w ∈ wsX4_walkAll := fun w h => by
  rw [List.mem_singleton.mp h]; unfold wsX4_walkAll
  exact List.mem_cons_self
theorem gw_wsX4_walkAll : wsX4_walkAll.all goodWord = true := by decide +kernel
theorem in_wsX4_moveAll_0 : ∀ w ∈ ([cw_124, cw_129, cw_130] : List Cond), w ∈ wsX4_moveAll := fun w h => by
  unfold wsX4_moveAll
  exact List.mem_cons_of_mem _ (List.mem_append_left _ h)
theorem in_wsX4_moveAll_1 : ∀ w ∈ wsX40, w ∈ wsX4_moveAll := fun w h => by
  unfold wsX4_moveAll
  exact List.mem_cons_of_mem _ (List.mem_append_right _ h)
theorem in_wsX4_moveAll_c : ∀ w ∈ [(.code yX4_moveAll cX4_moveAll 9 none : Cond)], w ∈ wsX4_moveAll := fun w h => by
  rw [List.mem_singleton.mp h]; unfold wsX4_moveAll
  exact List.mem_cons_self
theorem gw_wsX4_moveAll : wsX4_moveAll.all goodWord = true := by decide +kernel
theorem in_wsX5_readInto_0 : ∀ w ∈ wsX5_readInto_r1, w ∈ wsX5_readInto := fun w h => by
  unfold wsX5_readInto
  exact List.mem_cons_of_mem _ (List.mem_append_left _ (List.mem_append_left _ (List.mem_append_left _ h)))
theorem in_wsX5_readInto_1 : ∀ w ∈ wsX5_readInto_r2, w ∈ wsX5_readInto := fun w h => by
  unfold wsX5_readInto
  exact List.mem_cons_of_mem _ (List.mem_append_left _ (List.mem_append_left _ (List.mem_append_right _ (List.mem_append_left _ h))))
theorem in_wsX5_readInto_2 : ∀ w ∈ wsX5_readInto_r3, w ∈ wsX5_readInto := fun w h => by
  unfold wsX5_readInto
  exact List.mem_cons_of_mem _ (List.mem_append_left _ (List.mem_append_left _ (List.mem_append_right _ (List.mem_append_right _ (List.mem_append_left _ h)))))
theorem in_wsX5_readInto_3 : ∀ w ∈ wsX5_readInto_r4, w ∈ wsX5_readInto := fun w h => by
  unfold wsX5_readInto
  exact List.mem_cons_of_mem _ (List.mem_append_left _ (List.mem_append_left _ (List.mem_append_right _ (List.mem_append_right _ (List.mem_append_right _ h)))))
theorem in_wsX5_readInto_4 : ∀ w ∈ wsX50, w ∈ wsX5_readInto := fun w h => by
  unfold wsX5_readInto
  exact List.mem_cons_of_mem _ (List.mem_append_left _ (List.mem_append_right _ h))
theorem in_wsX5_readInto_5 : ∀ w ∈ wsX00, w ∈ wsX5_readInto := fun w h => by
  unfold wsX5_readInto
  exact List.mem_cons_of_mem _ (List.mem_append_right _ h)
theorem in_wsX5_readInto_c : ∀ w ∈ [(.code yX5_readInto cX5_readInto 3 none : Cond)], w ∈ wsX5_readInto := fun w h => by
  rw [List.mem_singleton.mp h]; unfold wsX5_readInto
  exact List.mem_cons_self
theorem in_wsX0_clear_0 : ∀ w ∈ ([cw_0, cw_1, cw_2, cw_3, cw_4] : List Cond), w ∈ wsX0_clear := fun w h => by
  unfold wsX0_clear
  exact List.mem_cons_of_mem _ (List.mem_append_left _ h)
theorem in_wsX0_clear_1 : ∀ w ∈ wsX00, w ∈ wsX0_clear := fun w h => by
  unfold wsX0_clear
  exact List.mem_cons_of_mem _ (List.mem_append_right _ h)
theorem in_wsX0_clear_c : ∀ w ∈ [(.code yX0_clear cX0_clear 1 none : Cond)], w ∈ wsX0_clear := fun w h => by
  rw [List.mem_singleton.mp h]; unfold wsX0_clear
  exact List.mem_cons_self
theorem gw_wsX0_clear : wsX0_clear.all goodWord = true := by decide +kernel
theorem in_wsX5_skipBlanks_0 : ∀ w ∈ ([cw_172, cw_173, cw_174] : List Cond), w ∈ wsX5_skipBlanks := fun w h => by
  unfold wsX5_skipBlanks
  exact List.mem_cons_of_mem _ (List.mem_append_left _ h)
theorem in_wsX5_skipBlanks_1 : ∀ w ∈ wsX50, w ∈ wsX5_skipBlanks := fun w h => by
  unfold wsX5_skipBlanks
  exact List.mem_cons_of_mem _ (List.mem_append_right _ h)
theorem in_wsX5_skipBlanks_c : ∀ w ∈ [(.code yX5_skipBlanks cX5_skipBlanks 1 (some .boolean) : Cond)], w ∈ wsX5_skipBlanks := fun w h => by
  rw [List.mem_singleton.mp h]; unfold wsX5_skipBlanks
  exact List.mem_cons_self
theorem gw_wsX5_skipBlanks : wsX5_skipBlanks.all goodWord = true := by decide +kernel
theorem in_wsX5_readClause_0 : ∀ w ∈ wsX5_readClause_r1, w ∈ wsX5_readClause := fun w h => by
  unfold wsX5_readClause
  exact List.mem_cons_of_mem _ (List.mem_append_left _ (List.mem_append_left _ (List.mem_append_left _ h)))
theorem in_wsX5_readClause_1 : ∀ w ∈ wsX5_readClause_r2, w ∈ wsX5_readClause := fun w h => by
  unfold wsX5_readClause
  exact List.mem_cons_of_mem _ (List.mem_append_left _ (List.mem_append_left _ (List.mem_append_right _ (List.mem_append_left _ h))))
theorem in_wsX5_readClause_2 : ∀ w ∈ wsX5_readClause_r3, w ∈ wsX5_readClause := fun w h => by
  unfold wsX5_readClause
  exact List.mem_cons_of_mem _ (List.mem_append_left _ (List.mem_append_left _ (List.mem_append_right _ (List.mem_append_right _ h))))
theorem in_wsX5_readClause_3 : ∀ w ∈ wsX50, w ∈ wsX5_readClause := fun w h => by
  unfold wsX5_readClause
  exact List.mem_cons_of_mem _ (List.mem_append_left _ (List.mem_append_right _ h))
theorem in_wsX5_readClause_4 : ∀ w ∈ wsX00, w ∈ wsX5_readClause := fun w h => by
  unfold wsX5_readClause
  exact List.mem_cons_of_mem _ (List.mem_append_right _ h)
theorem in_wsX5_readClause_c : ∀ w ∈ [(.code yX5_readClause cX5_readClause 4 none : Cond)], w ∈ wsX5_readClause := fun w h => by
  rw [List.mem_singleton.mp h]; unfold wsX5_readClause
  exact List.mem_cons_self
theorem gw_wsX5_readClause : wsX5_readClause.all goodWord = true := by decide +kernel
theorem in_wsX5_faultOfWord_0 : ∀ w ∈ ([cw_175, cw_176, cw_177] : List Cond), w ∈ wsX5_faultOfWord := fun w h => by
  unfold wsX5_faultOfWord
  exact List.mem_cons_of_mem _ (List.mem_append_left _ h)
theorem in_wsX5_faultOfWord_1 : ∀ w ∈ wsX00, w ∈ wsX5_faultOfWord := fun w h => by
  unfold wsX5_faultOfWord
  exact List.mem_cons_of_mem _ (List.mem_append_right _ h)
theorem in_wsX5_faultOfWord_c : ∀ w ∈ [(.code yX5_faultOfWord cX5_faultOfWord 4 (some .int) : Cond)], w ∈ wsX5_faultOfWord := fun w h => by
  rw [List.mem_singleton.mp h]; unfold wsX5_faultOfWord
  exact List.mem_cons_self
theorem gw_wsX5_faultOfWord : wsX5_faultOfWord.all goodWord = true := by decide +kernel
theorem in_wsX5_blame_0 : ∀ w ∈ ([cw_178, cw_179] : List Cond), w ∈ wsX5_blame := fun w h => by
  unfold wsX5_blame
  exact List.mem_cons_of_mem _ (List.mem_append_left _ h)
theorem in_wsX5_blame_1 : ∀ w ∈ wsX50, w ∈ wsX5_blame := fun w h => by
  unfold wsX5_blame
  exact List.mem_cons_of_mem _ (List.mem_append_right _ h)
theorem in_wsX5_blame_c : ∀ w ∈ [(.code yX5_blame cX5_blame 3 none : Cond)], w ∈ wsX5_blame := fun w h => by
  rw [List.mem_singleton.mp h]; unfold wsX5_blame
  exact List.mem_cons_self
theorem gw_wsX5_blame : wsX5_blame.all goodWord = true := by decide +kernel
theorem in_wsX5_readLimits_0 : ∀ w ∈ wsX5_readLimits_r1, w ∈ wsX5_readLimits := fun w h => by
  unfold wsX5_readLimits
  exact List.mem_cons_of_mem _ (List.mem_append_left _ (List.mem_append_left _ (List.mem_append_left _ h)))
theorem in_wsX5_readLimits_1 : ∀ w ∈ wsX5_readLimits_r2, w ∈ wsX5_readLimits := fun w h => by
  unfold wsX5_readLimits
  exact List.mem_cons_of_mem _ (List.mem_append_left _ (List.mem_append_left _ (List.mem_append_right _ h)))
theorem in_wsX5_readLimits_2 : ∀ w ∈ wsX00, w ∈ wsX5_readLimits := fun w h => by
  unfold wsX5_readLimits
  exact List.mem_cons_of_mem _ (List.mem_append_left _ (List.mem_append_right _ h))
theorem in_wsX5_readLimits_3 : ∀ w ∈ wsX50, w ∈ wsX5_readLimits := fun w h => by
  unfold wsX5_readLimits
  exact List.mem_cons_of_mem _ (List.mem_append_right _ h)
theorem in_wsX5_readLimits_c : ∀ w ∈ [(.code yX5_readLimits cX5_readLimits 4 none : Cond)], w ∈ wsX5_readLimits := fun w h => by
  rw [List.mem_singleton.mp h]; unfold wsX5_readLimits
  exact List.mem_cons_self
theorem gw_wsX5_readLimits : wsX5_readLimits.all goodWord = true := by decide +kernel
theorem in_wsX5_readTown_0 : ∀ w ∈ wsX5_readTown_r1, w ∈ wsX5_readTown := fun w h => by
  unfold wsX5_readTown
  exact List.mem_cons_of_mem _ (List.mem_append_left _ (List.mem_append_left _ (List.mem_append_left _ h)))
theorem in_wsX5_readTown_1 : ∀ w ∈ wsX5_readTown_r2, w ∈ wsX5_readTown := fun w h => by
  unfold wsX5_readTown
  exact List.mem_cons_of_mem _ (List.mem_append_left _ (List.mem_append_left _ (List.mem_append_right _ h)))
theorem in_wsX5_readTown_2 : ∀ w ∈ wsX50, w ∈ wsX5_readTown := fun w h => by
  unfold wsX5_readTown
  exact List.mem_cons_of_mem _ (List.mem_append_left _ (List.mem_append_right _ h))
theorem in_wsX5_readTown_3 : ∀ w ∈ wsX00, w ∈ wsX5_readTown := fun w h => by
  unfold wsX5_readTown
  exact List.mem_cons_of_mem _ (List.mem_append_right _ h)
theorem in_wsX5_readTown_c : ∀ w ∈ [(.code yX5_readTown cX5_readTown 5 none : Cond)], w ∈ wsX5_readTown := fun w h => by
  rw [List.mem_singleton.mp h]; unfold wsX5_readTown
  exact List.mem_cons_self
theorem gw_wsX5_readTown : wsX5_readTown.all goodWord = true := by decide +kernel
theorem in_wsX5_readRoad_0 : ∀ w ∈ wsX5_readRoad_r1, w ∈ wsX5_readRoad := fun w h => by
  unfold wsX5_readRoad
  exact List.mem_cons_of_mem _ (List.mem_append_left _ (List.mem_append_left _ (List.mem_append_left _ h)))
theorem in_wsX5_readRoad_1 : ∀ w ∈ wsX5_readRoad_r2, w ∈ wsX5_readRoad := fun w h => by
  unfold wsX5_readRoad
  exact List.mem_cons_of_mem _ (List.mem_append_left _ (List.mem_append_left _ (List.mem_append_right _ h)))
theorem in_wsX5_readRoad_2 : ∀ w ∈ wsX00, w ∈ wsX5_readRoad := fun w h => by
  unfold wsX5_readRoad
  exact List.mem_cons_of_mem _ (List.mem_append_left _ (List.mem_append_right _ h))
theorem in_wsX5_readRoad_3 : ∀ w ∈ wsX50, w ∈ wsX5_readRoad := fun w h => by
  unfold wsX5_readRoad
  exact List.mem_cons_of_mem _ (List.mem_append_right _ h)
theorem in_wsX5_readRoad_c : ∀ w ∈ [(.code yX5_readRoad cX5_readRoad 4 none : Cond)], w ∈ wsX5_readRoad := fun w h => by
  rw [List.mem_singleton.mp h]; unfold wsX5_readRoad
  exact List.mem_cons_self
theorem gw_wsX5_readRoad : wsX5_readRoad.all goodWord = true := by decide +kernel
theorem in_wsX5_readNumber_0 : ∀ w ∈ ([cw_178, cw_174, cw_172, cw_180, cw_173, cw_181, cw_182, cw_183, cw_184, cw_185, cw_186, cw_187, cw_188, cw_189, cw_190, cw_191, cw_192, cw_179] : List Cond), w ∈ wsX5_readNumber := fun w h => by
  unfold wsX5_readNumber
  exact List.mem_cons_of_mem _ (List.mem_append_left _ h)
theorem in_wsX5_readNumber_1 : ∀ w ∈ wsX50, w ∈ wsX5_readNumber := fun w h => by
  unfold wsX5_readNumber
  exact List.mem_cons_of_mem _ (List.mem_append_right _ h)
theorem in_wsX5_readNumber_c : ∀ w ∈ [(.code yX5_readNumber cX5_readNumber 4 (some .int) : Cond)], w ∈ wsX5_readNumber := fun w h => by
  rw [List.mem_singleton.mp h]; unfold wsX5_readNumber
  exact List.mem_cons_self
theorem gw_wsX5_readNumber : wsX5_readNumber.all goodWord = true := by decide +kernel
theorem in_wsX5_readEnd_0 : ∀ w ∈ ([cw_178, cw_174, cw_172, cw_181, cw_182, cw_183, cw_184, cw_185, cw_173, cw_189, cw_190, cw_191, cw_192, cw_179] : List Cond), w ∈ wsX5_readEnd := fun w h => by
  unfold wsX5_readEnd
  exact List.mem_cons_of_mem _ (List.mem_append_left _ h)
theorem in_wsX5_readEnd_1 : ∀ w ∈ wsX50, w ∈ wsX5_readEnd := fun w h => by
  unfold wsX5_readEnd
  exact List.mem_cons_of_mem _ (List.mem_append_right _ h)
theorem in_wsX5_readEnd_c : ∀ w ∈ [(.code yX5_readEnd cX5_readEnd 1 none : Cond)], w ∈ wsX5_readEnd := fun w h => by
  rw [List.mem_singleton.mp h]; unfold wsX5_readEnd
  exact List.mem_cons_self
theorem gw_wsX5_readEnd : wsX5_readEnd.all goodWord = true := by decide +kernel
theorem in_wsX0_addTown_0 : ∀ w ∈ ([cw_2, cw_5, cw_6, cw_7, cw_4] : List Cond), w ∈ wsX0_addTown := fun w h => by
  unfold wsX0_addTown
  exact List.mem_cons_of_mem _ (List.mem_append_left _ h)
theorem in_wsX0_addTown_1 : ∀ w ∈ wsX00, w ∈ wsX0_addTown := fun w h => by
  unfold wsX0_addTown
  exact List.mem_cons_of_mem _ (List.mem_append_right _ h)
theorem in_wsX0_addTown_c : ∀ w ∈ [(.code yX0_addTown cX0_addTown 4 none : Cond)], w ∈ wsX0_addTown := fun w h => by
  rw [List.mem_singleton.mp h]; unfold wsX0_addTown
  exact List.mem_cons_self
theorem gw_wsX0_addTown : wsX0_addTown.all goodWord = true := by decide +kernel
theorem in_wsX0_addRoad_0 : ∀ w ∈ ([cw_3, cw_8, cw_9] : List Cond), w ∈ wsX0_addRoad := fun w h => by
  unfold wsX0_addRoad
  exact List.mem_cons_of_mem _ (List.mem_append_left _ h)
theorem in_wsX0_addRoad_1 : ∀ w ∈ wsX00, w ∈ wsX0_addRoad := fun w h => by
  unfold wsX0_addRoad
  exact List.mem_cons_of_mem _ (List.mem_append_right _ h)
theorem in_wsX0_addRoad_c : ∀ w ∈ [(.code yX0_addRoad cX0_addRoad 3 none : Cond)], w ∈ wsX0_addRoad := fun w h => by
  rw [List.mem_singleton.mp h]; unfold wsX0_addRoad
  exact List.mem_cons_self
theorem gw_wsX0_addRoad : wsX0_addRoad.all goodWord = true := by decide +kernel
theorem in_wsX5_isFigure_c : ∀ w ∈ [(.code yX5_isFigure cX5_isFigure 1 (some .boolean) : Cond)], w ∈ wsX5_isFigure := fun w h => by
  rw [List.mem_singleton.mp h]; unfold wsX5_isFigure
  exact List.mem_cons_self
theorem gw_wsX5_isFigure : wsX5_isFigure.all goodWord = true := by decide +kernel
theorem in_wsX6_someWay_0 : ∀ w ∈ wsX6_someWay_r1, w ∈ wsX6_someWay := fun w h => by
  unfold wsX6_someWay
  exact List.mem_cons_of_mem _ (List.mem_append_left _ (List.mem_append_left _ (List.mem_append_left _ h)))
theorem in_wsX6_someWay_1 : ∀ w ∈ wsX6_someWay_r2, w ∈ wsX6_someWay := fun w h => by
  unfold wsX6_someWay
  exact List.mem_cons_of_mem _ (List.mem_append_left _ (List.mem_append_left _ (List.mem_append_right _ (List.mem_append_left _ h))))
theorem in_wsX6_someWay_2 : ∀ w ∈ wsX6_someWay_r3, w ∈ wsX6_someWay := fun w h => by
  unfold wsX6_someWay
  exact List.mem_cons_of_mem _ (List.mem_append_left _ (List.mem_append_left _ (List.mem_append_right _ (List.mem_append_right _ h))))
theorem in_wsX6_someWay_3 : ∀ w ∈ wsX60, w ∈ wsX6_someWay := fun w h => by
  unfold wsX6_someWay
  exact List.mem_cons_of_mem _ (List.mem_append_left _ (List.mem_append_right _ h))
theorem in_wsX6_someWay_4 : ∀ w ∈ wsX00, w ∈ wsX6_someWay := fun w h => by
  unfold wsX6_someWay
  exact List.mem_cons_of_mem _ (List.mem_append_right _ h)
theorem in_wsX6_someWay_c : ∀ w ∈ [(.code yX6_someWay cX6_someWay 3 (some .boolean) : Cond)], w ∈ wsX6_someWay := fun w h => by
  rw [List.mem_singleton.mp h]; unfold wsX6_someWay
  exact List.mem_cons_self
theorem in_wsX6_sweepAhead_0 : ∀ w ∈ wsX6_sweepAhead_r1, w ∈ wsX6_sweepAhead := fun w h => by
  unfold wsX6_sweepAhead
  exact List.mem_cons_of_mem _ (List.mem_append_left _ (List.mem_append_left _ (List.mem_append_left _ h)))
theorem in_wsX6_sweepAhead_1 : ∀ w ∈ wsX6_sweepAhead_r2, w ∈ wsX6_sweepAhead := fun w h => by
  unfold wsX6_sweepAhead
  exact List.mem_cons_of_mem _ (List.mem_append_left _ (List.mem_append_left _ (List.mem_append_right _ (List.mem_append_left _ h))))
theorem in_wsX6_sweepAhead_2 : ∀ w ∈ wsX6_sweepAhead_r3, w ∈ wsX6_sweepAhead := fun w h => by
  unfold wsX6_sweepAhead
  exact List.mem_cons_of_mem _ (List.mem_append_left _ (List.mem_append_left _ (List.mem_append_right _ (List.mem_append_right _ h))))
theorem in_wsX6_sweepAhead_3 : ∀ w ∈ wsX60, w ∈ wsX6_sweepAhead := fun w h => by
  unfold wsX6_sweepAhead
  exact List.mem_cons_of_mem _ (List.mem_append_left _ (List.mem_append_right _ h))
theorem in_wsX6_sweepAhead_4 : ∀ w ∈ wsX00, w ∈ wsX6_sweepAhead := fun w h => by
  unfold wsX6_sweepAhead
  exact List.mem_cons_of_mem _ (List.mem_append_right _ h)
theorem in_wsX6_sweepAhead_c : ∀ w ∈ [(.code yX6_sweepAhead cX6_sweepAhead 8 none : Cond)], w ∈ wsX6_sweepAhead := fun w h => by
  rw [List.mem_singleton.mp h]; unfold wsX6_sweepAhead
  exact List.mem_cons_self
theorem gw_wsX6_sweepAhead : wsX6_sweepAhead.all goodWord = true := by decide +kernel
theorem in_wsX6_union_c : ∀ w ∈ [(.code yX6_union cX6_union 4 (some .int) : Cond)], w ∈ wsX6_union := fun w h => by
  rw [List.mem_singleton.mp h]; unfold wsX6_union
  exact List.mem_cons_self
theorem gw_wsX6_union : wsX6_union.all goodWord = true := by decide +kernel
theorem in_wsX6_boughtSeals_0 : ∀ w ∈ wsX6_boughtSeals_r1, w ∈ wsX6_boughtSeals := fun w h => by
  unfold wsX6_boughtSeals
  exact List.mem_cons_of_mem _ (List.mem_append_left _ (List.mem_append_left _ (List.mem_append_left _ h)))
theorem in_wsX6_boughtSeals_1 : ∀ w ∈ wsX6_boughtSeals_r2, w ∈ wsX6_boughtSeals := fun w h => by
  unfold wsX6_boughtSeals
  exact List.mem_cons_of_mem _ (List.mem_append_left _ (List.mem_append_left _ (List.mem_append_right _ (List.mem_append_left _ h))))
theorem in_wsX6_boughtSeals_2 : ∀ w ∈ wsX6_boughtSeals_r3, w ∈ wsX6_boughtSeals := fun w h => by
  unfold wsX6_boughtSeals
  exact List.mem_cons_of_mem _ (List.mem_append_left _ (List.mem_append_left _ (List.mem_append_right _ (List.mem_append_right _ h))))
theorem in_wsX6_boughtSeals_3 : ∀ w ∈ wsX60, w ∈ wsX6_boughtSeals := fun w h => by
  unfold wsX6_boughtSeals
  exact List.mem_cons_of_mem _ (List.mem_append_left _ (List.mem_append_right _ h))
theorem in_wsX6_boughtSeals_4 : ∀ w ∈ wsX00, w ∈ wsX6_boughtSeals := fun w h => by
  unfold wsX6_boughtSeals
  exact List.mem_cons_of_mem _ (List.mem_append_right _ h)
theorem in_wsX6_boughtSeals_c : ∀ w ∈ [(.code yX6_boughtSeals cX6_boughtSeals 4 (some .int) : Cond)], w ∈ wsX6_boughtSeals := fun w h => by
  rw [List.mem_singleton.mp h]; unfold wsX6_boughtSeals
  exact List.mem_cons_self
theorem gw_wsX6_someWay : wsX6_someWay.all goodWord = true := by decide +kernel
theorem in_wsX6_sweepBoth_0 : ∀ w ∈ wsX6_sweepBoth_r1, w ∈ wsX6_sweepBoth := fun w h => by
  unfold wsX6_sweepBoth
  exact List.mem_cons_of_mem _ (List.mem_append_left _ (List.mem_append_left _ (List.mem_append_left _ h)))
theorem in_wsX6_sweepBoth_1 : ∀ w ∈ wsX6_sweepBoth_r2, w ∈ wsX6_sweepBoth := fun w h => by
  unfold wsX6_sweepBoth
  exact List.mem_cons_of_mem _ (List.mem_append_left _ (List.mem_append_left _ (List.mem_append_right _ (List.mem_append_left _ h))))
theorem in_wsX6_sweepBoth_2 : ∀ w ∈ wsX6_sweepBoth_r3, w ∈ wsX6_sweepBoth := fun w h => by
  unfold wsX6_sweepBoth
  exact List.mem_cons_of_mem _ (List.mem_append_left _ (List.mem_append_left _ (List.mem_append_right _ (List.mem_append_right _ h))))
theorem in_wsX6_sweepBoth_3 : ∀ w ∈ wsX60, w ∈ wsX6_sweepBoth := fun w h => by
  unfold wsX6_sweepBoth
  exact List.mem_cons_of_mem _ (List.mem_append_left _ (List.mem_append_right _ h))
theorem in_wsX6_sweepBoth_4 : ∀ w ∈ wsX00, w ∈ wsX6_sweepBoth := fun w h => by
  unfold wsX6_sweepBoth
  exact List.mem_cons_of_mem _ (List.mem_append_right _ h)
theorem in_wsX6_sweepBoth_c : ∀ w ∈ [(.code yX6_sweepBoth cX6_sweepBoth 2 none : Cond)], w ∈ wsX6_sweepBoth := fun w h => by
  rw [List.mem_singleton.mp h]; unfold wsX6_sweepBoth
  exact List.mem_cons_self
theorem in_wsX6_sweepBehind_0 : ∀ w ∈ wsX6_sweepBehind_r1, w ∈ wsX6_sweepBehind := fun w h => by
  unfold wsX6_sweepBehind
  exact List.mem_cons_of_mem _ (List.mem_append_left _ (List.mem_append_left _ (List.mem_append_left _ h)))
theorem in_wsX6_sweepBehind_1 : ∀ w ∈ wsX6_sweepBehind_r2, w ∈ wsX6_sweepBehind := fun w h => by
  unfold wsX6_sweepBehind
  exact List.mem_cons_of_mem _ (List.mem_append_left _ (List.mem_append_left _ (List.mem_append_right _ h)))
theorem in_wsX6_sweepBehind_2 : ∀ w ∈ wsX60, w ∈ wsX6_sweepBehind := fun w h => by
  unfold wsX6_sweepBehind
  exact List.mem_cons_of_mem _ (List.mem_append_left _ (List.mem_append_right _ h))
theorem in_wsX6_sweepBehind_3 : ∀ w ∈ wsX00, w ∈ wsX6_sweepBehind := fun w h => by
  unfold wsX6_sweepBehind
  exact List.mem_cons_of_mem _ (List.mem_append_right _ h)
theorem in_wsX6_sweepBehind_c : ∀ w ∈ [(.code yX6_sweepBehind cX6_sweepBehind 8 none : Cond)], w ∈ wsX6_sweepBehind := fun w h => by
  rw [List.mem_singleton.mp h]; unfold wsX6_sweepBehind
  exact List.mem_cons_self
theorem gw_wsX6_sweepBehind : wsX6_sweepBehind.all goodWord = true := by decide +kernel
theorem in_wsX6_widestMonth_0 : ∀ w ∈ ([cw_325, cw_326, cw_327, cw_328, cw_329, cw_320, cw_321, cw_330, cw_331, cw_332, cw_333, cw_322, cw_323, cw_324] : List Cond), w ∈ wsX6_widestMonth := fun w h => by
  unfold wsX6_widestMonth
  exact List.mem_cons_of_mem _ (List.mem_append_left _ h)
theorem in_wsX6_widestMonth_1 : ∀ w ∈ wsX60, w ∈ wsX6_widestMonth := fun w h => by
  unfold wsX6_widestMonth
  exact List.mem_cons_of_mem _ (List.mem_append_right _ h)
theorem in_wsX6_widestMonth_c : ∀ w ∈ [(.code yX6_widestMonth cX6_widestMonth 5 (some .int) : Cond)], w ∈ wsX6_widestMonth := fun w h => by
  rw [List.mem_singleton.mp h]; unfold wsX6_widestMonth
  exact List.mem_cons_self
theorem in_wsX6_townsAt_0 : ∀ w ∈ ([cw_320, cw_321] : List Cond), w ∈ wsX6_townsAt := fun w h => by
  unfold wsX6_townsAt
  exact List.mem_cons_of_mem _ (List.mem_append_left _ h)
theorem in_wsX6_townsAt_1 : ∀ w ∈ wsX60, w ∈ wsX6_townsAt := fun w h => by
  unfold wsX6_townsAt
  exact List.mem_cons_of_mem _ (List.mem_append_right _ h)
theorem in_wsX6_townsAt_c : ∀ w ∈ [(.code yX6_townsAt cX6_townsAt 4 (some .int) : Cond)], w ∈ wsX6_townsAt := fun w h => by
  rw [List.mem_singleton.mp h]; unfold wsX6_townsAt
  exact List.mem_cons_self
theorem gw_wsX6_townsAt : wsX6_townsAt.all goodWord = true := by decide +kernel
theorem in_wsJ6_bitCount_0f7a4_0 : ∀ w ∈ ([cw_322, cw_323, cw_324] : List Cond), w ∈ wsJ6_bitCount_0f7a4 := fun w h => by
  unfold wsJ6_bitCount_0f7a4
  exact List.mem_cons_of_mem _ h
theorem in_wsJ6_bitCount_0f7a4_c : ∀ w ∈ [(.code yJ6_bitCount_0f7a4 cJ6_bitCount_0f7a4 1 (some .int) : Cond)], w ∈ wsJ6_bitCount_0f7a4 := fun w h => by
  rw [List.mem_singleton.mp h]; unfold wsJ6_bitCount_0f7a4
  exact List.mem_cons_self
theorem gw_wsJ6_bitCount_0f7a4 : wsJ6_bitCount_0f7a4.all goodWord = true := by decide +kernel
theorem gw_wsX0_fillExits : wsX0_fillExits.all goodWord = true := by decide +kernel
theorem in_wsX6_staysIn_0 : ∀ w ∈ ([cw_265, cw_267, cw_266, cw_268, cw_16, cw_17, cw_13, cw_18, cw_6, cw_1, cw_10, cw_11, cw_12, cw_14, cw_2] : List Cond), w ∈ wsX6_staysIn := fun w h => by
  unfold wsX6_staysIn
  exact List.mem_cons_of_mem _ (List.mem_append_left _ (List.mem_append_left _ h))
theorem in_wsX6_staysIn_1 : ∀ w ∈ wsX60, w ∈ wsX6_staysIn := fun w h => by
  unfold wsX6_staysIn
  exact List.mem_cons_of_mem _ (List.mem_append_left _ (List.mem_append_right _ h))
theorem in_wsX6_staysIn_2 : ∀ w ∈ wsX00, w ∈ wsX6_staysIn := fun w h => by
  unfold wsX6_staysIn
  exact List.mem_cons_of_mem _ (List.mem_append_right _ h)
theorem in_wsX6_staysIn_c : ∀ w ∈ [(.code yX6_staysIn cX6_staysIn 6 (some .int) : Cond)], w ∈ wsX6_staysIn := fun w h => by
  rw [List.mem_singleton.mp h]; unfold wsX6_staysIn
  exact List.mem_cons_self
theorem gw_wsX6_staysIn : wsX6_staysIn.all goodWord = true := by decide +kernel
theorem in_wsX6_isTold_0 : ∀ w ∈ ([cw_265, cw_267] : List Cond), w ∈ wsX6_isTold := fun w h => by
  unfold wsX6_isTold
  exact List.mem_cons_of_mem _ (List.mem_append_left _ h)
theorem in_wsX6_isTold_1 : ∀ w ∈ wsX60, w ∈ wsX6_isTold := fun w h => by
  unfold wsX6_isTold
  exact List.mem_cons_of_mem _ (List.mem_append_right _ h)
theorem in_wsX6_isTold_c : ∀ w ∈ [(.code yX6_isTold cX6_isTold 4 (some .boolean) : Cond)], w ∈ wsX6_isTold := fun w h => by
  rw [List.mem_singleton.mp h]; unfold wsX6_isTold
  exact List.mem_cons_self
theorem gw_wsX6_isTold : wsX6_isTold.all goodWord = true := by decide +kernel
theorem in_wsX0_allTowns_0 : ∀ w ∈ ([cw_2] : List Cond), w ∈ wsX0_allTowns := fun w h => by
  unfold wsX0_allTowns
  exact List.mem_cons_of_mem _ (List.mem_append_left _ h)
theorem in_wsX0_allTowns_1 : ∀ w ∈ wsX00, w ∈ wsX0_allTowns := fun w h => by
  unfold wsX0_allTowns
  exact List.mem_cons_of_mem _ (List.mem_append_right _ h)
theorem in_wsX0_allTowns_c : ∀ w ∈ [(.code yX0_allTowns cX0_allTowns 1 (some .int) : Cond)], w ∈ wsX0_allTowns := fun w h => by
  rw [List.mem_singleton.mp h]; unfold wsX0_allTowns
  exact List.mem_cons_self
theorem gw_wsX0_allTowns : wsX0_allTowns.all goodWord = true := by decide +kernel
theorem in_wsX6_entriesTo_0 : ∀ w ∈ ([cw_306] : List Cond), w ∈ wsX6_entriesTo := fun w h => by
  unfold wsX6_entriesTo
  exact List.mem_cons_of_mem _ (List.mem_append_left _ h)
theorem in_wsX6_entriesTo_1 : ∀ w ∈ wsX60, w ∈ wsX6_entriesTo := fun w h => by
  unfold wsX6_entriesTo
  exact List.mem_cons_of_mem _ (List.mem_append_right _ h)
theorem in_wsX6_entriesTo_c : ∀ w ∈ [(.code yX6_entriesTo cX6_entriesTo 4 (some .int) : Cond)], w ∈ wsX6_entriesTo := fun w h => by
  rw [List.mem_singleton.mp h]; unfold wsX6_entriesTo
  exact List.mem_cons_self
theorem gw_wsX6_entriesTo : wsX6_entriesTo.all goodWord = true := by decide +kernel
theorem in_wsX7_init_0 : ∀ w ∈ wsX7_init_r1, w ∈ wsX7_init := fun w h => by
  unfold wsX7_init
  exact List.mem_cons_of_mem _ (List.mem_append_left _ (List.mem_append_left _ (List.mem_append_left _ (List.mem_append_left _ (List.mem_append_left _ (List.mem_append_left _ (List.mem_append_left _ (List.mem_append_left _ (List.mem_append_left _ h)))))))))
theorem in_wsX7_init_1 : ∀ w ∈ wsX7_init_r2, w ∈ wsX7_init := fun w h => by
  unfold wsX7_init
  exact List.mem_cons_of_mem _ (List.mem_append_left _ (List.mem_append_left _ (List.mem_append_left _ (List.mem_append_left _ (List.mem_append_left _ (List.mem_append_left _ (List.mem_append_left _ (List.mem_append_left _ (List.mem_append_right _ (List.mem_append_left _ h))))))))))
theorem in_wsX7_init_2 : ∀ w ∈ wsX7_init_r3, w ∈ wsX7_init := fun w h => by
  unfold wsX7_init
  exact List.mem_cons_of_mem _ (List.mem_append_left _ (List.mem_append_left _ (List.mem_append_left _ (List.mem_append_left _ (List.mem_append_left _ (List.mem_append_left _ (List.mem_append_left _ (List.mem_append_left _ (List.mem_append_right _ (List.mem_append_right _ (List.mem_append_left _ h)))))))))))
theorem in_wsX7_init_3 : ∀ w ∈ wsX7_init_r4, w ∈ wsX7_init := fun w h => by
  unfold wsX7_init
  exact List.mem_cons_of_mem _ (List.mem_append_left _ (List.mem_append_left _ (List.mem_append_left _ (List.mem_append_left _ (List.mem_append_left _ (List.mem_append_left _ (List.mem_append_left _ (List.mem_append_left _ (List.mem_append_right _ (List.mem_append_right _ (List.mem_append_right _ h)))))))))))
theorem in_wsX7_init_4 : ∀ w ∈ wsX50, w ∈ wsX7_init := fun w h => by
  unfold wsX7_init
  exact List.mem_cons_of_mem _ (List.mem_append_left _ (List.mem_append_left _ (List.mem_append_left _ (List.mem_append_left _ (List.mem_append_left _ (List.mem_append_left _ (List.mem_append_left _ (List.mem_append_right _ h))))))))
theorem in_wsX7_init_5 : ∀ w ∈ wsX70, w ∈ wsX7_init := fun w h => by
  unfold wsX7_init
  exact List.mem_cons_of_mem _ (List.mem_append_left _ (List.mem_append_left _ (List.mem_append_left _ (List.mem_append_left _ (List.mem_append_left _ (List.mem_append_left _ (List.mem_append_right _ h)))))))
theorem in_wsX7_init_6 : ∀ w ∈ wsX10, w ∈ wsX7_init := fun w h => by
  unfold wsX7_init
  exact List.mem_cons_of_mem _ (List.mem_append_left _ (List.mem_append_left _ (List.mem_append_left _ (List.mem_append_left _ (List.mem_append_left _ (List.mem_append_right _ h))))))
theorem in_wsX7_init_7 : ∀ w ∈ wsX20, w ∈ wsX7_init := fun w h => by
  unfold wsX7_init
  exact List.mem_cons_of_mem _ (List.mem_append_left _ (List.mem_append_left _ (List.mem_append_left _ (List.mem_append_left _ (List.mem_append_right _ h)))))
theorem in_wsX7_init_8 : ∀ w ∈ wsX30, w ∈ wsX7_init := fun w h => by
  unfold wsX7_init
  exact List.mem_cons_of_mem _ (List.mem_append_left _ (List.mem_append_left _ (List.mem_append_left _ (List.mem_append_right _ h))))
theorem in_wsX7_init_9 : ∀ w ∈ wsX40, w ∈ wsX7_init := fun w h => by
  unfold wsX7_init
  exact List.mem_cons_of_mem _ (List.mem_append_left _ (List.mem_append_left _ (List.mem_append_right _ h)))
theorem in_wsX7_init_10 : ∀ w ∈ wsX60, w ∈ wsX7_init := fun w h => by
  unfold wsX7_init
  exact List.mem_cons_of_mem _ (List.mem_append_left _ (List.mem_append_right _ h))
theorem in_wsX7_init_11 : ∀ w ∈ wsX00, w ∈ wsX7_init := fun w h => by
  unfold wsX7_init
  exact List.mem_cons_of_mem _ (List.mem_append_right _ h)
theorem in_wsX7_init_c : ∀ w ∈ [(.code yX7_init cX7_init 2 none : Cond)], w ∈ wsX7_init := fun w h => by
  rw [List.mem_singleton.mp h]; unfold wsX7_init
  exact List.mem_cons_self
theorem in_wsX5_init_0 : ∀ w ∈ ([.methodLink RX5 3 objectInit, .instanceMethod objectInit, .code objectInit ⟨#[0xb1]⟩ 1 none, .arrayClass .char, .fieldLink RX5 9 "JourneyRoads$Text" "letters" "[C", .fieldLink RX5 15 "JourneyRoads$Text" "faultAt" "I"] : List Cond), w ∈ wsX5_init := fun w h => by
  unfold wsX5_init
  exact List.mem_cons_of_mem _ (List.mem_append_left _ h)
theorem in_wsX5_init_1 : ∀ w ∈ wsX50, w ∈ wsX5_init := fun w h => by
  unfold wsX5_init
  exact List.mem_cons_of_mem _ (List.mem_append_right _ h)
theorem in_wsX5_init_c : ∀ w ∈ [(.code yX5_init cX5_init 1 none : Cond)], w ∈ wsX5_init := fun w h => by
  rw [List.mem_singleton.mp h]; unfold wsX5_init
  exact List.mem_cons_self
theorem gw_wsX5_init : wsX5_init.all goodWord = true := by decide +kernel
theorem gw_wsX2_init : wsX2_init.all goodWord = true := by decide +kernel
theorem in_wsX3_init_0 : ∀ w ∈ ([.methodLink RX3 3 objectInit, .instanceMethod objectInit, .code objectInit ⟨#[0xb1]⟩ 1 none, .arrayClass .int, .fieldLink RX3 11 "JourneyRoads$Plan" "most" "[I", .fieldLink RX3 15 "JourneyRoads$Plan" "mine" "[I", .fieldLink RX3 18 "JourneyRoads$Plan" "others" "[I"] : List Cond), w ∈ wsX3_init := fun w h => by
  unfold wsX3_init
  exact List.mem_cons_of_mem _ (List.mem_append_left _ h)
theorem in_wsX3_init_1 : ∀ w ∈ wsX30, w ∈ wsX3_init := fun w h => by
  unfold wsX3_init
  exact List.mem_cons_of_mem _ (List.mem_append_right _ h)
theorem in_wsX3_init_c : ∀ w ∈ [(.code yX3_init cX3_init 1 none : Cond)], w ∈ wsX3_init := fun w h => by
  rw [List.mem_singleton.mp h]; unfold wsX3_init
  exact List.mem_cons_self
theorem gw_wsX3_init : wsX3_init.all goodWord = true := by decide +kernel
theorem in_wsX4_init_0 : ∀ w ∈ ([.methodLink RX4 5 objectInit, .instanceMethod objectInit, .code objectInit ⟨#[0xb1]⟩ 1 none, .arrayClass .long, .fieldLink RX4 11 "JourneyRoads$SealSearch" "now" "[J", .fieldLink RX4 15 "JourneyRoads$SealSearch" "next" "[J"] : List Cond), w ∈ wsX4_init := fun w h => by
  unfold wsX4_init
  exact List.mem_cons_of_mem _ (List.mem_append_left _ h)
theorem in_wsX4_init_1 : ∀ w ∈ wsX40, w ∈ wsX4_init := fun w h => by
  unfold wsX4_init
  exact List.mem_cons_of_mem _ (List.mem_append_right _ h)
theorem in_wsX4_init_c : ∀ w ∈ [(.code yX4_init cX4_init 1 none : Cond)], w ∈ wsX4_init := fun w h => by
  rw [List.mem_singleton.mp h]; unfold wsX4_init
  exact List.mem_cons_self
theorem gw_wsX4_init : wsX4_init.all goodWord = true := by decide +kernel
theorem in_wsX6_init_0 : ∀ w ∈ ([.methodLink RX6 3 objectInit, .instanceMethod objectInit, .code objectInit ⟨#[0xb1]⟩ 1 none, .arrayClass .int, .fieldLink RX6 9 "JourneyRoads$Ways" "sealTown" "[I", .fieldLink RX6 15 "JourneyRoads$Ways" "sealMonth" "[I", .fieldLink RX6 18 "JourneyRoads$Ways" "exits" "[I", .fieldLink RX6 21 "JourneyRoads$Ways" "ahead" "[I", .fieldLink RX6 24 "JourneyRoads$Ways" "behind" "[I"] : List Cond), w ∈ wsX6_init := fun w h => by
  unfold wsX6_init
  exact List.mem_cons_of_mem _ (List.mem_append_left _ h)
theorem in_wsX6_init_1 : ∀ w ∈ wsX60, w ∈ wsX6_init := fun w h => by
  unfold wsX6_init
  exact List.mem_cons_of_mem _ (List.mem_append_right _ h)
theorem in_wsX6_init_c : ∀ w ∈ [(.code yX6_init cX6_init 1 none : Cond)], w ∈ wsX6_init := fun w h => by
  rw [List.mem_singleton.mp h]; unfold wsX6_init
  exact List.mem_cons_self
theorem gw_wsX6_init : wsX6_init.all goodWord = true := by decide +kernel
theorem in_wsX0_init_0 : ∀ w ∈ ([.methodLink RX0 3 objectInit, .instanceMethod objectInit, .code objectInit ⟨#[0xb1]⟩ 1 none, .arrayClass .int, .fieldLink RX0 9 "JourneyRoads$Country" "miles" "[I", .fieldLink RX0 15 "JourneyRoads$Country" "work" "[I", .fieldLink RX0 18 "JourneyRoads$Country" "gain" "[I", .fieldLink RX0 21 "JourneyRoads$Country" "roadA" "[I", .fieldLink RX0 24 "JourneyRoads$Country" "roadB" "[I"] : List Cond), w ∈ wsX0_init := fun w h => by
  unfold wsX0_init
  exact List.mem_cons_of_mem _ (List.mem_append_left _ h)
theorem in_wsX0_init_1 : ∀ w ∈ wsX00, w ∈ wsX0_init := fun w h => by
  unfold wsX0_init
  exact List.mem_cons_of_mem _ (List.mem_append_right _ h)
theorem in_wsX0_init_c : ∀ w ∈ [(.code yX0_init cX0_init 1 none : Cond)], w ∈ wsX0_init := fun w h => by
  rw [List.mem_singleton.mp h]; unfold wsX0_init
  exact List.mem_cons_self
theorem gw_wsX0_init : wsX0_init.all goodWord = true := by decide +kernel
theorem in_wsX7_land_0 : ∀ w ∈ wsX7_land_r1, w ∈ wsX7_land := fun w h => by
  unfold wsX7_land
  exact List.mem_cons_of_mem _ (List.mem_append_left _ (List.mem_append_left _ (List.mem_append_left _ (List.mem_append_left _ (List.mem_append_left _ (List.mem_append_left _ (List.mem_append_left _ h)))))))
theorem in_wsX7_land_1 : ∀ w ∈ wsX7_land_r2, w ∈ wsX7_land := fun w h => by
  unfold wsX7_land
  exact List.mem_cons_of_mem _ (List.mem_append_left _ (List.mem_append_left _ (List.mem_append_left _ (List.mem_append_left _ (List.mem_append_left _ (List.mem_append_left _ (List.mem_append_right _ (List.mem_append_left _ h))))))))
theorem in_wsX7_land_2 : ∀ w ∈ wsX7_land_r3, w ∈ wsX7_land := fun w h => by
  unfold wsX7_land
  exact List.mem_cons_of_mem _ (List.mem_append_left _ (List.mem_append_left _ (List.mem_append_left _ (List.mem_append_left _ (List.mem_append_left _ (List.mem_append_left _ (List.mem_append_right _ (List.mem_append_right _ (List.mem_append_left _ h)))))))))
theorem in_wsX7_land_3 : ∀ w ∈ wsX7_land_r4, w ∈ wsX7_land := fun w h => by
  unfold wsX7_land
  exact List.mem_cons_of_mem _ (List.mem_append_left _ (List.mem_append_left _ (List.mem_append_left _ (List.mem_append_left _ (List.mem_append_left _ (List.mem_append_left _ (List.mem_append_right _ (List.mem_append_right _ (List.mem_append_right _ (List.mem_append_left _ h))))))))))
theorem in_wsX7_land_4 : ∀ w ∈ wsX7_land_r5, w ∈ wsX7_land := fun w h => by
  unfold wsX7_land
  exact List.mem_cons_of_mem _ (List.mem_append_left _ (List.mem_append_left _ (List.mem_append_left _ (List.mem_append_left _ (List.mem_append_left _ (List.mem_append_left _ (List.mem_append_right _ (List.mem_append_right _ (List.mem_append_right _ (List.mem_append_right _ h))))))))))
theorem in_wsX7_land_5 : ∀ w ∈ wsX70, w ∈ wsX7_land := fun w h => by
  unfold wsX7_land
  exact List.mem_cons_of_mem _ (List.mem_append_left _ (List.mem_append_left _ (List.mem_append_left _ (List.mem_append_left _ (List.mem_append_left _ (List.mem_append_right _ h))))))
theorem in_wsX7_land_6 : ∀ w ∈ wsX50, w ∈ wsX7_land := fun w h => by
  unfold wsX7_land
  exact List.mem_cons_of_mem _ (List.mem_append_left _ (List.mem_append_left _ (List.mem_append_left _ (List.mem_append_left _ (List.mem_append_right _ h)))))
theorem in_wsX7_land_7 : ∀ w ∈ wsX20, w ∈ wsX7_land := fun w h => by
  unfold wsX7_land
  exact List.mem_cons_of_mem _ (List.mem_append_left _ (List.mem_append_left _ (List.mem_append_left _ (List.mem_append_right _ h))))
theorem in_wsX7_land_8 : ∀ w ∈ wsX60, w ∈ wsX7_land := fun w h => by
  unfold wsX7_land
  exact List.mem_cons_of_mem _ (List.mem_append_left _ (List.mem_append_left _ (List.mem_append_right _ h)))
theorem in_wsX7_land_9 : ∀ w ∈ wsX00, w ∈ wsX7_land := fun w h => by
  unfold wsX7_land
  exact List.mem_cons_of_mem _ (List.mem_append_left _ (List.mem_append_right _ h))
theorem in_wsX7_land_10 : ∀ w ∈ wsX10, w ∈ wsX7_land := fun w h => by
  unfold wsX7_land
  exact List.mem_cons_of_mem _ (List.mem_append_right _ h)
theorem in_wsX7_land_c : ∀ w ∈ [(.code yX7_land cX7_land 3 (some .int) : Cond)], w ∈ wsX7_land := fun w h => by
  rw [List.mem_singleton.mp h]; unfold wsX7_land
  exact List.mem_cons_self
theorem gw_wsX5_readInto : wsX5_readInto.all goodWord = true := by decide +kernel
theorem in_wsX1_clear_0 : ∀ w ∈ ([cw_27, cw_28, cw_29, cw_30, cw_31, cw_32, cw_33] : List Cond), w ∈ wsX1_clear := fun w h => by
  unfold wsX1_clear
  exact List.mem_cons_of_mem _ (List.mem_append_left _ h)
theorem in_wsX1_clear_1 : ∀ w ∈ wsX10, w ∈ wsX1_clear := fun w h => by
  unfold wsX1_clear
  exact List.mem_cons_of_mem _ (List.mem_append_right _ h)
theorem in_wsX1_clear_c : ∀ w ∈ [(.code yX1_clear cX1_clear 1 none : Cond)], w ∈ wsX1_clear := fun w h => by
  rw [List.mem_singleton.mp h]; unfold wsX1_clear
  exact List.mem_cons_self
theorem gw_wsX1_clear : wsX1_clear.all goodWord = true := by decide +kernel
theorem in_wsX7_town_0 : ∀ w ∈ ([cw_405, cw_423, cw_424, cw_425, cw_426, cw_375, cw_427, cw_11, cw_12, cw_13, cw_14, cw_2, cw_428, cw_20, cw_21, cw_22, cw_3, cw_8, cw_9, cw_429, cw_430, cw_431, cw_432, cw_4] : List Cond), w ∈ wsX7_town := fun w h => by
  unfold wsX7_town
  exact List.mem_cons_of_mem _ (List.mem_append_left _ (List.mem_append_left _ h))
theorem in_wsX7_town_1 : ∀ w ∈ wsX70, w ∈ wsX7_town := fun w h => by
  unfold wsX7_town
  exact List.mem_cons_of_mem _ (List.mem_append_left _ (List.mem_append_right _ h))
theorem in_wsX7_town_2 : ∀ w ∈ wsX00, w ∈ wsX7_town := fun w h => by
  unfold wsX7_town
  exact List.mem_cons_of_mem _ (List.mem_append_right _ h)
theorem in_wsX7_town_c : ∀ w ∈ [(.code yX7_town cX7_town 3 (some .int) : Cond)], w ∈ wsX7_town := fun w h => by
  rw [List.mem_singleton.mp h]; unfold wsX7_town
  exact List.mem_cons_self
theorem in_wsX0_isBanned_0 : ∀ w ∈ ([cw_4] : List Cond), w ∈ wsX0_isBanned := fun w h => by
  unfold wsX0_isBanned
  exact List.mem_cons_of_mem _ (List.mem_append_left _ h)
theorem in_wsX0_isBanned_1 : ∀ w ∈ wsX00, w ∈ wsX0_isBanned := fun w h => by
  unfold wsX0_isBanned
  exact List.mem_cons_of_mem _ (List.mem_append_right _ h)
theorem in_wsX0_isBanned_c : ∀ w ∈ [(.code yX0_isBanned cX0_isBanned 2 (some .boolean) : Cond)], w ∈ wsX0_isBanned := fun w h => by
  rw [List.mem_singleton.mp h]; unfold wsX0_isBanned
  exact List.mem_cons_self
theorem gw_wsX0_isBanned : wsX0_isBanned.all goodWord = true := by decide +kernel
theorem in_wsX7_road_0 : ∀ w ∈ ([cw_405, cw_423, cw_433, cw_434, cw_410, cw_416, cw_375, cw_435, cw_436, cw_437, cw_13, cw_438, cw_3] : List Cond), w ∈ wsX7_road := fun w h => by
  unfold wsX7_road
  exact List.mem_cons_of_mem _ (List.mem_append_left _ (List.mem_append_left _ (List.mem_append_left _ h)))
theorem in_wsX7_road_1 : ∀ w ∈ wsX70, w ∈ wsX7_road := fun w h => by
  unfold wsX7_road
  exact List.mem_cons_of_mem _ (List.mem_append_left _ (List.mem_append_left _ (List.mem_append_right _ h)))
theorem in_wsX7_road_2 : ∀ w ∈ wsX00, w ∈ wsX7_road := fun w h => by
  unfold wsX7_road
  exact List.mem_cons_of_mem _ (List.mem_append_left _ (List.mem_append_right _ h))
theorem in_wsX7_road_3 : ∀ w ∈ wsX10, w ∈ wsX7_road := fun w h => by
  unfold wsX7_road
  exact List.mem_cons_of_mem _ (List.mem_append_right _ h)
theorem in_wsX7_road_c : ∀ w ∈ [(.code yX7_road cX7_road 3 (some .int) : Cond)], w ∈ wsX7_road := fun w h => by
  rw [List.mem_singleton.mp h]; unfold wsX7_road
  exact List.mem_cons_self
theorem in_wsX0_hasRoad_0 : ∀ w ∈ ([cw_3] : List Cond), w ∈ wsX0_hasRoad := fun w h => by
  unfold wsX0_hasRoad
  exact List.mem_cons_of_mem _ (List.mem_append_left _ h)
theorem in_wsX0_hasRoad_1 : ∀ w ∈ wsX00, w ∈ wsX0_hasRoad := fun w h => by
  unfold wsX0_hasRoad
  exact List.mem_cons_of_mem _ (List.mem_append_right _ h)
theorem in_wsX0_hasRoad_c : ∀ w ∈ [(.code yX0_hasRoad cX0_hasRoad 2 (some .boolean) : Cond)], w ∈ wsX0_hasRoad := fun w h => by
  rw [List.mem_singleton.mp h]; unfold wsX0_hasRoad
  exact List.mem_cons_self
theorem gw_wsX0_hasRoad : wsX0_hasRoad.all goodWord = true := by decide +kernel
theorem in_wsX7_stay_0 : ∀ w ∈ wsX7_stay_r1, w ∈ wsX7_stay := fun w h => by
  unfold wsX7_stay
  exact List.mem_cons_of_mem _ (List.mem_append_left _ (List.mem_append_left _ (List.mem_append_left _ (List.mem_append_left _ (List.mem_append_left _ h)))))
theorem in_wsX7_stay_1 : ∀ w ∈ wsX7_stay_r2, w ∈ wsX7_stay := fun w h => by
  unfold wsX7_stay
  exact List.mem_cons_of_mem _ (List.mem_append_left _ (List.mem_append_left _ (List.mem_append_left _ (List.mem_append_left _ (List.mem_append_right _ (List.mem_append_left _ h))))))
theorem in_wsX7_stay_2 : ∀ w ∈ wsX7_stay_r3, w ∈ wsX7_stay := fun w h => by
  unfold wsX7_stay
  exact List.mem_cons_of_mem _ (List.mem_append_left _ (List.mem_append_left _ (List.mem_append_left _ (List.mem_append_left _ (List.mem_append_right _ (List.mem_append_right _ h))))))
theorem in_wsX7_stay_3 : ∀ w ∈ wsX70, w ∈ wsX7_stay := fun w h => by
  unfold wsX7_stay
  exact List.mem_cons_of_mem _ (List.mem_append_left _ (List.mem_append_left _ (List.mem_append_left _ (List.mem_append_right _ h))))
theorem in_wsX7_stay_4 : ∀ w ∈ wsX10, w ∈ wsX7_stay := fun w h => by
  unfold wsX7_stay
  exact List.mem_cons_of_mem _ (List.mem_append_left _ (List.mem_append_left _ (List.mem_append_right _ h)))
theorem in_wsX7_stay_5 : ∀ w ∈ wsX00, w ∈ wsX7_stay := fun w h => by
  unfold wsX7_stay
  exact List.mem_cons_of_mem _ (List.mem_append_left _ (List.mem_append_right _ h))
theorem in_wsX7_stay_6 : ∀ w ∈ wsX20, w ∈ wsX7_stay := fun w h => by
  unfold wsX7_stay
  exact List.mem_cons_of_mem _ (List.mem_append_right _ h)
theorem in_wsX7_stay_c : ∀ w ∈ [(.code yX7_stay cX7_stay 1 (some .int) : Cond)], w ∈ wsX7_stay := fun w h => by
  rw [List.mem_singleton.mp h]; unfold wsX7_stay
  exact List.mem_cons_self
theorem in_wsX7_cannotGoOn_0 : ∀ w ∈ ([cw_405, cw_408, cw_410, cw_417] : List Cond), w ∈ wsX7_cannotGoOn := fun w h => by
  unfold wsX7_cannotGoOn
  exact List.mem_cons_of_mem _ (List.mem_append_left _ (List.mem_append_left _ (List.mem_append_left _ h)))
theorem in_wsX7_cannotGoOn_1 : ∀ w ∈ wsX70, w ∈ wsX7_cannotGoOn := fun w h => by
  unfold wsX7_cannotGoOn
  exact List.mem_cons_of_mem _ (List.mem_append_left _ (List.mem_append_left _ (List.mem_append_right _ h)))
theorem in_wsX7_cannotGoOn_2 : ∀ w ∈ wsX00, w ∈ wsX7_cannotGoOn := fun w h => by
  unfold wsX7_cannotGoOn
  exact List.mem_cons_of_mem _ (List.mem_append_left _ (List.mem_append_right _ h))
theorem in_wsX7_cannotGoOn_3 : ∀ w ∈ wsX10, w ∈ wsX7_cannotGoOn := fun w h => by
  unfold wsX7_cannotGoOn
  exact List.mem_cons_of_mem _ (List.mem_append_right _ h)
theorem in_wsX7_cannotGoOn_c : ∀ w ∈ [(.code yX7_cannotGoOn cX7_cannotGoOn 1 (some .boolean) : Cond)], w ∈ wsX7_cannotGoOn := fun w h => by
  rw [List.mem_singleton.mp h]; unfold wsX7_cannotGoOn
  exact List.mem_cons_self
theorem gw_wsX7_cannotGoOn : wsX7_cannotGoOn.all goodWord = true := by decide +kernel
theorem in_wsX1_mayStay_0 : ∀ w ∈ ([cw_29, cw_34] : List Cond), w ∈ wsX1_mayStay := fun w h => by
  unfold wsX1_mayStay
  exact List.mem_cons_of_mem _ (List.mem_append_left _ (List.mem_append_left _ h))
theorem in_wsX1_mayStay_1 : ∀ w ∈ wsX10, w ∈ wsX1_mayStay := fun w h => by
  unfold wsX1_mayStay
  exact List.mem_cons_of_mem _ (List.mem_append_left _ (List.mem_append_right _ h))
theorem in_wsX1_mayStay_2 : ∀ w ∈ wsX00, w ∈ wsX1_mayStay := fun w h => by
  unfold wsX1_mayStay
  exact List.mem_cons_of_mem _ (List.mem_append_right _ h)
theorem in_wsX1_mayStay_c : ∀ w ∈ [(.code yX1_mayStay cX1_mayStay 2 (some .boolean) : Cond)], w ∈ wsX1_mayStay := fun w h => by
  rw [List.mem_singleton.mp h]; unfold wsX1_mayStay
  exact List.mem_cons_self
theorem gw_wsX1_mayStay : wsX1_mayStay.all goodWord = true := by decide +kernel
theorem gw_wsX2_push : wsX2_push.all goodWord = true := by decide +kernel
theorem gw_wsX1_stayMonth : wsX1_stayMonth.all goodWord = true := by decide +kernel
theorem in_wsX7_walk_0 : ∀ w ∈ wsX7_walk_r1, w ∈ wsX7_walk := fun w h => by
  unfold wsX7_walk
  exact List.mem_cons_of_mem _ (List.mem_append_left _ (List.mem_append_left _ (List.mem_append_left _ (List.mem_append_left _ (List.mem_append_left _ h)))))
theorem in_wsX7_walk_1 : ∀ w ∈ wsX7_walk_r2, w ∈ wsX7_walk := fun w h => by
  unfold wsX7_walk
  exact List.mem_cons_of_mem _ (List.mem_append_left _ (List.mem_append_left _ (List.mem_append_left _ (List.mem_append_left _ (List.mem_append_right _ (List.mem_append_left _ h))))))
theorem in_wsX7_walk_2 : ∀ w ∈ wsX7_walk_r3, w ∈ wsX7_walk := fun w h => by
  unfold wsX7_walk
  exact List.mem_cons_of_mem _ (List.mem_append_left _ (List.mem_append_left _ (List.mem_append_left _ (List.mem_append_left _ (List.mem_append_right _ (List.mem_append_right _ h))))))
theorem in_wsX7_walk_3 : ∀ w ∈ wsX70, w ∈ wsX7_walk := fun w h => by
  unfold wsX7_walk
  exact List.mem_cons_of_mem _ (List.mem_append_left _ (List.mem_append_left _ (List.mem_append_left _ (List.mem_append_right _ h))))
theorem in_wsX7_walk_4 : ∀ w ∈ wsX10, w ∈ wsX7_walk := fun w h => by
  unfold wsX7_walk
  exact List.mem_cons_of_mem _ (List.mem_append_left _ (List.mem_append_left _ (List.mem_append_right _ h)))
theorem in_wsX7_walk_5 : ∀ w ∈ wsX00, w ∈ wsX7_walk := fun w h => by
  unfold wsX7_walk
  exact List.mem_cons_of_mem _ (List.mem_append_left _ (List.mem_append_right _ h))
theorem in_wsX7_walk_6 : ∀ w ∈ wsX20, w ∈ wsX7_walk := fun w h => by
  unfold wsX7_walk
  exact List.mem_cons_of_mem _ (List.mem_append_right _ h)
theorem in_wsX7_walk_c : ∀ w ∈ [(.code yX7_walk cX7_walk 2 (some .int) : Cond)], w ∈ wsX7_walk := fun w h => by
  rw [List.mem_singleton.mp h]; unfold wsX7_walk
  exact List.mem_cons_self
theorem gw_wsX1_walks : wsX1_walks.all goodWord = true := by decide +kernel
theorem in_wsX1_walkMonth_0 : ∀ w ∈ ([cw_27, cw_29, cw_28] : List Cond), w ∈ wsX1_walkMonth := fun w h => by
  unfold wsX1_walkMonth
  exact List.mem_cons_of_mem _ (List.mem_append_left _ h)
theorem in_wsX1_walkMonth_1 : ∀ w ∈ wsX10, w ∈ wsX1_walkMonth := fun w h => by
  unfold wsX1_walkMonth
  exact List.mem_cons_of_mem _ (List.mem_append_right _ h)
theorem in_wsX1_walkMonth_c : ∀ w ∈ [(.code yX1_walkMonth cX1_walkMonth 2 none : Cond)], w ∈ wsX1_walkMonth := fun w h => by
  rw [List.mem_singleton.mp h]; unfold wsX1_walkMonth
  exact List.mem_cons_self
theorem gw_wsX1_walkMonth : wsX1_walkMonth.all goodWord = true := by decide +kernel
theorem in_wsX7_war_0 : ∀ w ∈ wsX7_war_r1, w ∈ wsX7_war := fun w h => by
  unfold wsX7_war
  exact List.mem_cons_of_mem _ (List.mem_append_left _ (List.mem_append_left _ (List.mem_append_left _ (List.mem_append_left _ (List.mem_append_left _ h)))))
theorem in_wsX7_war_1 : ∀ w ∈ wsX7_war_r2, w ∈ wsX7_war := fun w h => by
  unfold wsX7_war
  exact List.mem_cons_of_mem _ (List.mem_append_left _ (List.mem_append_left _ (List.mem_append_left _ (List.mem_append_left _ (List.mem_append_right _ h)))))
theorem in_wsX7_war_2 : ∀ w ∈ wsX70, w ∈ wsX7_war := fun w h => by
  unfold wsX7_war
  exact List.mem_cons_of_mem _ (List.mem_append_left _ (List.mem_append_left _ (List.mem_append_left _ (List.mem_append_right _ h))))
theorem in_wsX7_war_3 : ∀ w ∈ wsX10, w ∈ wsX7_war := fun w h => by
  unfold wsX7_war
  exact List.mem_cons_of_mem _ (List.mem_append_left _ (List.mem_append_left _ (List.mem_append_right _ h)))
theorem in_wsX7_war_4 : ∀ w ∈ wsX00, w ∈ wsX7_war := fun w h => by
  unfold wsX7_war
  exact List.mem_cons_of_mem _ (List.mem_append_left _ (List.mem_append_right _ h))
theorem in_wsX7_war_5 : ∀ w ∈ wsX20, w ∈ wsX7_war := fun w h => by
  unfold wsX7_war
  exact List.mem_cons_of_mem _ (List.mem_append_right _ h)
theorem in_wsX7_war_c : ∀ w ∈ [(.code yX7_war cX7_war 4 (some .int) : Cond)], w ∈ wsX7_war := fun w h => by
  rw [List.mem_singleton.mp h]; unfold wsX7_war
  exact List.mem_cons_self
theorem in_wsX7_home_0 : ∀ w ∈ wsX7_home_r1, w ∈ wsX7_home := fun w h => by
  unfold wsX7_home
  exact List.mem_cons_of_mem _ (List.mem_append_left _ (List.mem_append_left _ (List.mem_append_left _ (List.mem_append_left _ (List.mem_append_left _ h)))))
theorem in_wsX7_home_1 : ∀ w ∈ wsX7_home_r2, w ∈ wsX7_home := fun w h => by
  unfold wsX7_home
  exact List.mem_cons_of_mem _ (List.mem_append_left _ (List.mem_append_left _ (List.mem_append_left _ (List.mem_append_left _ (List.mem_append_right _ h)))))
theorem in_wsX7_home_2 : ∀ w ∈ wsX70, w ∈ wsX7_home := fun w h => by
  unfold wsX7_home
  exact List.mem_cons_of_mem _ (List.mem_append_left _ (List.mem_append_left _ (List.mem_append_left _ (List.mem_append_right _ h))))
theorem in_wsX7_home_3 : ∀ w ∈ wsX10, w ∈ wsX7_home := fun w h => by
  unfold wsX7_home
  exact List.mem_cons_of_mem _ (List.mem_append_left _ (List.mem_append_left _ (List.mem_append_right _ h)))
theorem in_wsX7_home_4 : ∀ w ∈ wsX00, w ∈ wsX7_home := fun w h => by
  unfold wsX7_home
  exact List.mem_cons_of_mem _ (List.mem_append_left _ (List.mem_append_right _ h))
theorem in_wsX7_home_5 : ∀ w ∈ wsX20, w ∈ wsX7_home := fun w h => by
  unfold wsX7_home
  exact List.mem_cons_of_mem _ (List.mem_append_right _ h)
theorem in_wsX7_home_c : ∀ w ∈ [(.code yX7_home cX7_home 1 (some .int) : Cond)], w ∈ wsX7_home := fun w h => by
  rw [List.mem_singleton.mp h]; unfold wsX7_home
  exact List.mem_cons_self
theorem in_wsX7_drift_0 : ∀ w ∈ wsX7_drift_r1, w ∈ wsX7_drift := fun w h => by
  unfold wsX7_drift
  exact List.mem_cons_of_mem _ (List.mem_append_left _ (List.mem_append_left _ (List.mem_append_left _ (List.mem_append_left _ (List.mem_append_left _ h)))))
theorem in_wsX7_drift_1 : ∀ w ∈ wsX7_drift_r2, w ∈ wsX7_drift := fun w h => by
  unfold wsX7_drift
  exact List.mem_cons_of_mem _ (List.mem_append_left _ (List.mem_append_left _ (List.mem_append_left _ (List.mem_append_left _ (List.mem_append_right _ (List.mem_append_left _ h))))))
theorem in_wsX7_drift_2 : ∀ w ∈ wsX7_drift_r3, w ∈ wsX7_drift := fun w h => by
  unfold wsX7_drift
  exact List.mem_cons_of_mem _ (List.mem_append_left _ (List.mem_append_left _ (List.mem_append_left _ (List.mem_append_left _ (List.mem_append_right _ (List.mem_append_right _ (List.mem_append_left _ h)))))))
theorem in_wsX7_drift_3 : ∀ w ∈ wsX7_drift_r4, w ∈ wsX7_drift := fun w h => by
  unfold wsX7_drift
  exact List.mem_cons_of_mem _ (List.mem_append_left _ (List.mem_append_left _ (List.mem_append_left _ (List.mem_append_left _ (List.mem_append_right _ (List.mem_append_right _ (List.mem_append_right _ (List.mem_append_left _ h))))))))
theorem in_wsX7_drift_4 : ∀ w ∈ wsX7_drift_r5, w ∈ wsX7_drift := fun w h => by
  unfold wsX7_drift
  exact List.mem_cons_of_mem _ (List.mem_append_left _ (List.mem_append_left _ (List.mem_append_left _ (List.mem_append_left _ (List.mem_append_right _ (List.mem_append_right _ (List.mem_append_right _ (List.mem_append_right _ h))))))))
theorem in_wsX7_drift_5 : ∀ w ∈ wsX70, w ∈ wsX7_drift := fun w h => by
  unfold wsX7_drift
  exact List.mem_cons_of_mem _ (List.mem_append_left _ (List.mem_append_left _ (List.mem_append_left _ (List.mem_append_right _ h))))
theorem in_wsX7_drift_6 : ∀ w ∈ wsX10, w ∈ wsX7_drift := fun w h => by
  unfold wsX7_drift
  exact List.mem_cons_of_mem _ (List.mem_append_left _ (List.mem_append_left _ (List.mem_append_right _ h)))
theorem in_wsX7_drift_7 : ∀ w ∈ wsX00, w ∈ wsX7_drift := fun w h => by
  unfold wsX7_drift
  exact List.mem_cons_of_mem _ (List.mem_append_left _ (List.mem_append_right _ h))
theorem in_wsX7_drift_8 : ∀ w ∈ wsX20, w ∈ wsX7_drift := fun w h => by
  unfold wsX7_drift
  exact List.mem_cons_of_mem _ (List.mem_append_right _ h)
theorem in_wsX7_drift_c : ∀ w ∈ [(.code yX7_drift cX7_drift 3 (some .int) : Cond)], w ∈ wsX7_drift := fun w h => by
  rw [List.mem_singleton.mp h]; unfold wsX7_drift
  exact List.mem_cons_self
theorem in_wsX7_driftMonth_0 : ∀ w ∈ wsX7_driftMonth_r1, w ∈ wsX7_driftMonth := fun w h => by
  unfold wsX7_driftMonth
  exact List.mem_cons_of_mem _ (List.mem_append_left _ (List.mem_append_left _ (List.mem_append_left _ (List.mem_append_left _ h))))
theorem in_wsX7_driftMonth_1 : ∀ w ∈ wsX7_driftMonth_r2, w ∈ wsX7_driftMonth := fun w h => by
  unfold wsX7_driftMonth
  exact List.mem_cons_of_mem _ (List.mem_append_left _ (List.mem_append_left _ (List.mem_append_left _ (List.mem_append_right _ (List.mem_append_left _ h)))))
theorem in_wsX7_driftMonth_2 : ∀ w ∈ wsX7_driftMonth_r3, w ∈ wsX7_driftMonth := fun w h => by
  unfold wsX7_driftMonth
  exact List.mem_cons_of_mem _ (List.mem_append_left _ (List.mem_append_left _ (List.mem_append_left _ (List.mem_append_right _ (List.mem_append_right _ h)))))
theorem in_wsX7_driftMonth_3 : ∀ w ∈ wsX70, w ∈ wsX7_driftMonth := fun w h => by
  unfold wsX7_driftMonth
  exact List.mem_cons_of_mem _ (List.mem_append_left _ (List.mem_append_left _ (List.mem_append_right _ h)))
theorem in_wsX7_driftMonth_4 : ∀ w ∈ wsX00, w ∈ wsX7_driftMonth := fun w h => by
  unfold wsX7_driftMonth
  exact List.mem_cons_of_mem _ (List.mem_append_left _ (List.mem_append_right _ h))
theorem in_wsX7_driftMonth_5 : ∀ w ∈ wsX10, w ∈ wsX7_driftMonth := fun w h => by
  unfold wsX7_driftMonth
  exact List.mem_cons_of_mem _ (List.mem_append_right _ h)
theorem in_wsX7_driftMonth_c : ∀ w ∈ [(.code yX7_driftMonth cX7_driftMonth 3 none : Cond)], w ∈ wsX7_driftMonth := fun w h => by
  rw [List.mem_singleton.mp h]; unfold wsX7_driftMonth
  exact List.mem_cons_self
theorem gw_wsX7_driftMonth : wsX7_driftMonth.all goodWord = true := by decide +kernel
theorem in_wsX7_undo_0 : ∀ w ∈ ([cw_421, cw_422, cw_509, cw_410, cw_510, cw_511, cw_512, cw_46, cw_513, cw_42, cw_41, cw_48, cw_49, cw_50, cw_51, cw_52, cw_27, cw_28, cw_29, cw_30, cw_31, cw_32, cw_33] : List Cond), w ∈ wsX7_undo := fun w h => by
  unfold wsX7_undo
  exact List.mem_cons_of_mem _ (List.mem_append_left _ (List.mem_append_left _ (List.mem_append_left _ h)))
theorem in_wsX7_undo_1 : ∀ w ∈ wsX70, w ∈ wsX7_undo := fun w h => by
  unfold wsX7_undo
  exact List.mem_cons_of_mem _ (List.mem_append_left _ (List.mem_append_left _ (List.mem_append_right _ h)))
theorem in_wsX7_undo_2 : ∀ w ∈ wsX20, w ∈ wsX7_undo := fun w h => by
  unfold wsX7_undo
  exact List.mem_cons_of_mem _ (List.mem_append_left _ (List.mem_append_right _ h))
theorem in_wsX7_undo_3 : ∀ w ∈ wsX10, w ∈ wsX7_undo := fun w h => by
  unfold wsX7_undo
  exact List.mem_cons_of_mem _ (List.mem_append_right _ h)
theorem in_wsX7_undo_c : ∀ w ∈ [(.code yX7_undo cX7_undo 1 (some .int) : Cond)], w ∈ wsX7_undo := fun w h => by
  rw [List.mem_singleton.mp h]; unfold wsX7_undo
  exact List.mem_cons_self
theorem gw_wsX2_pop : wsX2_pop.all goodWord = true := by decide +kernel
theorem in_wsX7_may_0 : ∀ w ∈ wsX7_may_r1, w ∈ wsX7_may := fun w h => by
  unfold wsX7_may
  exact List.mem_cons_of_mem _ (List.mem_append_left _ (List.mem_append_left _ (List.mem_append_left _ (List.mem_append_left _ h))))
theorem in_wsX7_may_1 : ∀ w ∈ wsX7_may_r2, w ∈ wsX7_may := fun w h => by
  unfold wsX7_may
  exact List.mem_cons_of_mem _ (List.mem_append_left _ (List.mem_append_left _ (List.mem_append_left _ (List.mem_append_right _ h))))
theorem in_wsX7_may_2 : ∀ w ∈ wsX70, w ∈ wsX7_may := fun w h => by
  unfold wsX7_may
  exact List.mem_cons_of_mem _ (List.mem_append_left _ (List.mem_append_left _ (List.mem_append_right _ h)))
theorem in_wsX7_may_3 : ∀ w ∈ wsX00, w ∈ wsX7_may := fun w h => by
  unfold wsX7_may
  exact List.mem_cons_of_mem _ (List.mem_append_left _ (List.mem_append_right _ h))
theorem in_wsX7_may_4 : ∀ w ∈ wsX10, w ∈ wsX7_may := fun w h => by
  unfold wsX7_may
  exact List.mem_cons_of_mem _ (List.mem_append_right _ h)
theorem in_wsX7_may_c : ∀ w ∈ [(.code yX7_may cX7_may 2 (some .int) : Cond)], w ∈ wsX7_may := fun w h => by
  rw [List.mem_singleton.mp h]; unfold wsX7_may
  exact List.mem_cons_self
theorem in_wsX7_reach_0 : ∀ w ∈ wsX7_reach_r1, w ∈ wsX7_reach := fun w h => by
  unfold wsX7_reach
  exact List.mem_cons_of_mem _ (List.mem_append_left _ (List.mem_append_left _ (List.mem_append_left _ (List.mem_append_left _ h))))
theorem in_wsX7_reach_1 : ∀ w ∈ wsX7_reach_r2, w ∈ wsX7_reach := fun w h => by
  unfold wsX7_reach
  exact List.mem_cons_of_mem _ (List.mem_append_left _ (List.mem_append_left _ (List.mem_append_left _ (List.mem_append_right _ h))))
theorem in_wsX7_reach_2 : ∀ w ∈ wsX70, w ∈ wsX7_reach := fun w h => by
  unfold wsX7_reach
  exact List.mem_cons_of_mem _ (List.mem_append_left _ (List.mem_append_left _ (List.mem_append_right _ h)))
theorem in_wsX7_reach_3 : ∀ w ∈ wsX10, w ∈ wsX7_reach := fun w h => by
  unfold wsX7_reach
  exact List.mem_cons_of_mem _ (List.mem_append_left _ (List.mem_append_right _ h))
theorem in_wsX7_reach_4 : ∀ w ∈ wsX00, w ∈ wsX7_reach := fun w h => by
  unfold wsX7_reach
  exact List.mem_cons_of_mem _ (List.mem_append_right _ h)
theorem in_wsX7_reach_c : ∀ w ∈ [(.code yX7_reach cX7_reach 4 (some .int) : Cond)], w ∈ wsX7_reach := fun w h => by
  rw [List.mem_singleton.mp h]; unfold wsX7_reach
  exact List.mem_cons_self
theorem in_wsX7_best_0 : ∀ w ∈ wsX7_best_r1, w ∈ wsX7_best := fun w h => by
  unfold wsX7_best
  exact List.mem_cons_of_mem _ (List.mem_append_left _ (List.mem_append_left _ (List.mem_append_left _ (List.mem_append_left _ (List.mem_append_left _ h)))))
theorem in_wsX7_best_1 : ∀ w ∈ wsX7_best_r2, w ∈ wsX7_best := fun w h => by
  unfold wsX7_best
  exact List.mem_cons_of_mem _ (List.mem_append_left _ (List.mem_append_left _ (List.mem_append_left _ (List.mem_append_left _ (List.mem_append_right _ (List.mem_append_left _ h))))))
theorem in_wsX7_best_2 : ∀ w ∈ wsX7_best_r3, w ∈ wsX7_best := fun w h => by
  unfold wsX7_best
  exact List.mem_cons_of_mem _ (List.mem_append_left _ (List.mem_append_left _ (List.mem_append_left _ (List.mem_append_left _ (List.mem_append_right _ (List.mem_append_right _ (List.mem_append_left _ h)))))))
theorem in_wsX7_best_3 : ∀ w ∈ wsX7_best_r4, w ∈ wsX7_best := fun w h => by
  unfold wsX7_best
  exact List.mem_cons_of_mem _ (List.mem_append_left _ (List.mem_append_left _ (List.mem_append_left _ (List.mem_append_left _ (List.mem_append_right _ (List.mem_append_right _ (List.mem_append_right _ h)))))))
theorem in_wsX7_best_4 : ∀ w ∈ wsX70, w ∈ wsX7_best := fun w h => by
  unfold wsX7_best
  exact List.mem_cons_of_mem _ (List.mem_append_left _ (List.mem_append_left _ (List.mem_append_left _ (List.mem_append_right _ h))))
theorem in_wsX7_best_5 : ∀ w ∈ wsX10, w ∈ wsX7_best := fun w h => by
  unfold wsX7_best
  exact List.mem_cons_of_mem _ (List.mem_append_left _ (List.mem_append_left _ (List.mem_append_right _ h)))
theorem in_wsX7_best_6 : ∀ w ∈ wsX00, w ∈ wsX7_best := fun w h => by
  unfold wsX7_best
  exact List.mem_cons_of_mem _ (List.mem_append_left _ (List.mem_append_right _ h))
theorem in_wsX7_best_7 : ∀ w ∈ wsX30, w ∈ wsX7_best := fun w h => by
  unfold wsX7_best
  exact List.mem_cons_of_mem _ (List.mem_append_right _ h)
theorem in_wsX7_best_c : ∀ w ∈ [(.code yX7_best cX7_best 4 (some .int) : Cond)], w ∈ wsX7_best := fun w h => by
  rw [List.mem_singleton.mp h]; unfold wsX7_best
  exact List.mem_cons_self
theorem gw_wsX3_fill : wsX3_fill.all goodWord = true := by decide +kernel
theorem gw_wsX3_townBehind : wsX3_townBehind.all goodWord = true := by decide +kernel
theorem in_wsX7_seals_0 : ∀ w ∈ wsX7_seals_r1, w ∈ wsX7_seals := fun w h => by
  unfold wsX7_seals
  exact List.mem_cons_of_mem _ (List.mem_append_left _ (List.mem_append_left _ (List.mem_append_left _ (List.mem_append_left _ (List.mem_append_left _ h)))))
theorem in_wsX7_seals_1 : ∀ w ∈ wsX7_seals_r2, w ∈ wsX7_seals := fun w h => by
  unfold wsX7_seals
  exact List.mem_cons_of_mem _ (List.mem_append_left _ (List.mem_append_left _ (List.mem_append_left _ (List.mem_append_left _ (List.mem_append_right _ (List.mem_append_left _ h))))))
theorem in_wsX7_seals_2 : ∀ w ∈ wsX7_seals_r3, w ∈ wsX7_seals := fun w h => by
  unfold wsX7_seals
  exact List.mem_cons_of_mem _ (List.mem_append_left _ (List.mem_append_left _ (List.mem_append_left _ (List.mem_append_left _ (List.mem_append_right _ (List.mem_append_right _ (List.mem_append_left _ h)))))))
theorem in_wsX7_seals_3 : ∀ w ∈ wsX7_seals_r4, w ∈ wsX7_seals := fun w h => by
  unfold wsX7_seals
  exact List.mem_cons_of_mem _ (List.mem_append_left _ (List.mem_append_left _ (List.mem_append_left _ (List.mem_append_left _ (List.mem_append_right _ (List.mem_append_right _ (List.mem_append_right _ h)))))))
theorem in_wsX7_seals_4 : ∀ w ∈ wsX70, w ∈ wsX7_seals := fun w h => by
  unfold wsX7_seals
  exact List.mem_cons_of_mem _ (List.mem_append_left _ (List.mem_append_left _ (List.mem_append_left _ (List.mem_append_right _ h))))
theorem in_wsX7_seals_5 : ∀ w ∈ wsX10, w ∈ wsX7_seals := fun w h => by
  unfold wsX7_seals
  exact List.mem_cons_of_mem _ (List.mem_append_left _ (List.mem_append_left _ (List.mem_append_right _ h)))
theorem in_wsX7_seals_6 : ∀ w ∈ wsX00, w ∈ wsX7_seals := fun w h => by
  unfold wsX7_seals
  exact List.mem_cons_of_mem _ (List.mem_append_left _ (List.mem_append_right _ h))
theorem in_wsX7_seals_7 : ∀ w ∈ wsX40, w ∈ wsX7_seals := fun w h => by
  unfold wsX7_seals
  exact List.mem_cons_of_mem _ (List.mem_append_right _ h)
theorem in_wsX7_seals_c : ∀ w ∈ [(.code yX7_seals cX7_seals 2 (some .int) : Cond)], w ∈ wsX7_seals := fun w h => by
  rw [List.mem_singleton.mp h]; unfold wsX7_seals
  exact List.mem_cons_self
theorem gw_wsX4_fewestMonths : wsX4_fewestMonths.all goodWord = true := by decide +kernel
theorem in_wsX7_two_0 : ∀ w ∈ wsX7_two_r1, w ∈ wsX7_two := fun w h => by
  unfold wsX7_two
  exact List.mem_cons_of_mem _ (List.mem_append_left _ (List.mem_append_left _ (List.mem_append_left _ (List.mem_append_left _ (List.mem_append_left _ h)))))
theorem in_wsX7_two_1 : ∀ w ∈ wsX7_two_r2, w ∈ wsX7_two := fun w h => by
  unfold wsX7_two
  exact List.mem_cons_of_mem _ (List.mem_append_left _ (List.mem_append_left _ (List.mem_append_left _ (List.mem_append_left _ (List.mem_append_right _ (List.mem_append_left _ h))))))
theorem in_wsX7_two_2 : ∀ w ∈ wsX7_two_r3, w ∈ wsX7_two := fun w h => by
  unfold wsX7_two
  exact List.mem_cons_of_mem _ (List.mem_append_left _ (List.mem_append_left _ (List.mem_append_left _ (List.mem_append_left _ (List.mem_append_right _ (List.mem_append_right _ h))))))
theorem in_wsX7_two_3 : ∀ w ∈ wsX70, w ∈ wsX7_two := fun w h => by
  unfold wsX7_two
  exact List.mem_cons_of_mem _ (List.mem_append_left _ (List.mem_append_left _ (List.mem_append_left _ (List.mem_append_right _ h))))
theorem in_wsX7_two_4 : ∀ w ∈ wsX10, w ∈ wsX7_two := fun w h => by
  unfold wsX7_two
  exact List.mem_cons_of_mem _ (List.mem_append_left _ (List.mem_append_left _ (List.mem_append_right _ h)))
theorem in_wsX7_two_5 : ∀ w ∈ wsX00, w ∈ wsX7_two := fun w h => by
  unfold wsX7_two
  exact List.mem_cons_of_mem _ (List.mem_append_left _ (List.mem_append_right _ h))
theorem in_wsX7_two_6 : ∀ w ∈ wsX30, w ∈ wsX7_two := fun w h => by
  unfold wsX7_two
  exact List.mem_cons_of_mem _ (List.mem_append_right _ h)
theorem in_wsX7_two_c : ∀ w ∈ [(.code yX7_two cX7_two 2 (some .int) : Cond)], w ∈ wsX7_two := fun w h => by
  rw [List.mem_singleton.mp h]; unfold wsX7_two
  exact List.mem_cons_self
theorem gw_wsX3_monthsToMeet : wsX3_monthsToMeet.all goodWord = true := by decide +kernel
theorem in_wsX7_idle_0 : ∀ w ∈ ([cw_405, cw_408, cw_425, cw_429, cw_430, cw_431, cw_13, cw_432, cw_4] : List Cond), w ∈ wsX7_idle := fun w h => by
  unfold wsX7_idle
  exact List.mem_cons_of_mem _ (List.mem_append_left _ (List.mem_append_left _ h))
theorem in_wsX7_idle_1 : ∀ w ∈ wsX70, w ∈ wsX7_idle := fun w h => by
  unfold wsX7_idle
  exact List.mem_cons_of_mem _ (List.mem_append_left _ (List.mem_append_right _ h))
theorem in_wsX7_idle_2 : ∀ w ∈ wsX00, w ∈ wsX7_idle := fun w h => by
  unfold wsX7_idle
  exact List.mem_cons_of_mem _ (List.mem_append_right _ h)
theorem in_wsX7_idle_c : ∀ w ∈ [(.code yX7_idle cX7_idle 3 (some .int) : Cond)], w ∈ wsX7_idle := fun w h => by
  rw [List.mem_singleton.mp h]; unfold wsX7_idle
  exact List.mem_cons_self
theorem in_wsX7_stranded_0 : ∀ w ∈ ([cw_405, cw_544, cw_410, cw_416, cw_408, cw_545, cw_546, cw_547, cw_13, cw_548, cw_2, cw_23, cw_24, cw_25, cw_26, cw_4, cw_19, cw_20, cw_21, cw_22, cw_3, cw_8, cw_9] : List Cond), w ∈ wsX7_stranded := fun w h => by
  unfold wsX7_stranded
  exact List.mem_cons_of_mem _ (List.mem_append_left _ (List.mem_append_left _ (List.mem_append_left _ h)))
theorem in_wsX7_stranded_1 : ∀ w ∈ wsX70, w ∈ wsX7_stranded := fun w h => by
  unfold wsX7_stranded
  exact List.mem_cons_of_mem _ (List.mem_append_left _ (List.mem_append_left _ (List.mem_append_right _ h)))
theorem in_wsX7_stranded_2 : ∀ w ∈ wsX10, w ∈ wsX7_stranded := fun w h => by
  unfold wsX7_stranded
  exact List.mem_cons_of_mem _ (List.mem_append_left _ (List.mem_append_right _ h))
theorem in_wsX7_stranded_3 : ∀ w ∈ wsX00, w ∈ wsX7_stranded := fun w h => by
  unfold wsX7_stranded
  exact List.mem_cons_of_mem _ (List.mem_append_right _ h)
theorem in_wsX7_stranded_c : ∀ w ∈ [(.code yX7_stranded cX7_stranded 3 (some .int) : Cond)], w ∈ wsX7_stranded := fun w h => by
  rw [List.mem_singleton.mp h]; unfold wsX7_stranded
  exact List.mem_cons_self
theorem in_wsX7_seal_0 : ∀ w ∈ ([cw_405, cw_423, cw_375, cw_418, cw_419, cw_378, cw_427, cw_11, cw_12, cw_13, cw_14, cw_2, cw_551, cw_552, cw_553, cw_328, cw_554, cw_265, cw_266, cw_267] : List Cond), w ∈ wsX7_seal := fun w h => by
  unfold wsX7_seal
  exact List.mem_cons_of_mem _ (List.mem_append_left _ (List.mem_append_left _ (List.mem_append_left _ h)))
theorem in_wsX7_seal_1 : ∀ w ∈ wsX70, w ∈ wsX7_seal := fun w h => by
  unfold wsX7_seal
  exact List.mem_cons_of_mem _ (List.mem_append_left _ (List.mem_append_left _ (List.mem_append_right _ h)))
theorem in_wsX7_seal_2 : ∀ w ∈ wsX60, w ∈ wsX7_seal := fun w h => by
  unfold wsX7_seal
  exact List.mem_cons_of_mem _ (List.mem_append_left _ (List.mem_append_right _ h))
theorem in_wsX7_seal_3 : ∀ w ∈ wsX00, w ∈ wsX7_seal := fun w h => by
  unfold wsX7_seal
  exact List.mem_cons_of_mem _ (List.mem_append_right _ h)
theorem in_wsX7_seal_c : ∀ w ∈ [(.code yX7_seal cX7_seal 3 (some .int) : Cond)], w ∈ wsX7_seal := fun w h => by
  rw [List.mem_singleton.mp h]; unfold wsX7_seal
  exact List.mem_cons_self
theorem in_wsX6_add_0 : ∀ w ∈ ([cw_265, cw_266, cw_267] : List Cond), w ∈ wsX6_add := fun w h => by
  unfold wsX6_add
  exact List.mem_cons_of_mem _ (List.mem_append_left _ h)
theorem in_wsX6_add_1 : ∀ w ∈ wsX60, w ∈ wsX6_add := fun w h => by
  unfold wsX6_add
  exact List.mem_cons_of_mem _ (List.mem_append_right _ h)
theorem in_wsX6_add_c : ∀ w ∈ [(.code yX6_add cX6_add 3 none : Cond)], w ∈ wsX6_add := fun w h => by
  rw [List.mem_singleton.mp h]; unfold wsX6_add
  exact List.mem_cons_self
theorem gw_wsX6_add : wsX6_add.all goodWord = true := by decide +kernel
theorem in_wsX7_fits_0 : ∀ w ∈ wsX7_fits_r1, w ∈ wsX7_fits := fun w h => by
  unfold wsX7_fits
  exact List.mem_cons_of_mem _ (List.mem_append_left _ (List.mem_append_left _ (List.mem_append_left _ (List.mem_append_left _ h))))
theorem in_wsX7_fits_1 : ∀ w ∈ wsX7_fits_r2, w ∈ wsX7_fits := fun w h => by
  unfold wsX7_fits
  exact List.mem_cons_of_mem _ (List.mem_append_left _ (List.mem_append_left _ (List.mem_append_left _ (List.mem_append_right _ (List.mem_append_left _ h)))))
theorem in_wsX7_fits_2 : ∀ w ∈ wsX7_fits_r3, w ∈ wsX7_fits := fun w h => by
  unfold wsX7_fits
  exact List.mem_cons_of_mem _ (List.mem_append_left _ (List.mem_append_left _ (List.mem_append_left _ (List.mem_append_right _ (List.mem_append_right _ h)))))
theorem in_wsX7_fits_3 : ∀ w ∈ wsX70, w ∈ wsX7_fits := fun w h => by
  unfold wsX7_fits
  exact List.mem_cons_of_mem _ (List.mem_append_left _ (List.mem_append_left _ (List.mem_append_right _ h)))
theorem in_wsX7_fits_4 : ∀ w ∈ wsX60, w ∈ wsX7_fits := fun w h => by
  unfold wsX7_fits
  exact List.mem_cons_of_mem _ (List.mem_append_left _ (List.mem_append_right _ h))
theorem in_wsX7_fits_5 : ∀ w ∈ wsX00, w ∈ wsX7_fits := fun w h => by
  unfold wsX7_fits
  exact List.mem_cons_of_mem _ (List.mem_append_right _ h)
theorem in_wsX7_fits_c : ∀ w ∈ [(.code yX7_fits cX7_fits 1 (some .int) : Cond)], w ∈ wsX7_fits := fun w h => by
  rw [List.mem_singleton.mp h]; unfold wsX7_fits
  exact List.mem_cons_self
theorem in_wsX7_bought_0 : ∀ w ∈ wsX7_bought_r1, w ∈ wsX7_bought := fun w h => by
  unfold wsX7_bought
  exact List.mem_cons_of_mem _ (List.mem_append_left _ (List.mem_append_left _ (List.mem_append_left _ (List.mem_append_left _ h))))
theorem in_wsX7_bought_1 : ∀ w ∈ wsX7_bought_r2, w ∈ wsX7_bought := fun w h => by
  unfold wsX7_bought
  exact List.mem_cons_of_mem _ (List.mem_append_left _ (List.mem_append_left _ (List.mem_append_left _ (List.mem_append_right _ (List.mem_append_left _ h)))))
theorem in_wsX7_bought_2 : ∀ w ∈ wsX7_bought_r3, w ∈ wsX7_bought := fun w h => by
  unfold wsX7_bought
  exact List.mem_cons_of_mem _ (List.mem_append_left _ (List.mem_append_left _ (List.mem_append_left _ (List.mem_append_right _ (List.mem_append_right _ h)))))
theorem in_wsX7_bought_3 : ∀ w ∈ wsX70, w ∈ wsX7_bought := fun w h => by
  unfold wsX7_bought
  exact List.mem_cons_of_mem _ (List.mem_append_left _ (List.mem_append_left _ (List.mem_append_right _ h)))
theorem in_wsX7_bought_4 : ∀ w ∈ wsX60, w ∈ wsX7_bought := fun w h => by
  unfold wsX7_bought
  exact List.mem_cons_of_mem _ (List.mem_append_left _ (List.mem_append_right _ h))
theorem in_wsX7_bought_5 : ∀ w ∈ wsX00, w ∈ wsX7_bought := fun w h => by
  unfold wsX7_bought
  exact List.mem_cons_of_mem _ (List.mem_append_right _ h)
theorem in_wsX7_bought_c : ∀ w ∈ [(.code yX7_bought cX7_bought 1 (some .int) : Cond)], w ∈ wsX7_bought := fun w h => by
  rw [List.mem_singleton.mp h]; unfold wsX7_bought
  exact List.mem_cons_self
theorem gw_wsX6_boughtSeals : wsX6_boughtSeals.all goodWord = true := by decide +kernel
theorem in_wsX7_was_0 : ∀ w ∈ wsX7_was_r1, w ∈ wsX7_was := fun w h => by
  unfold wsX7_was
  exact List.mem_cons_of_mem _ (List.mem_append_left _ (List.mem_append_left _ (List.mem_append_left _ (List.mem_append_left _ h))))
theorem in_wsX7_was_1 : ∀ w ∈ wsX7_was_r2, w ∈ wsX7_was := fun w h => by
  unfold wsX7_was
  exact List.mem_cons_of_mem _ (List.mem_append_left _ (List.mem_append_left _ (List.mem_append_left _ (List.mem_append_right _ (List.mem_append_left _ h)))))
theorem in_wsX7_was_2 : ∀ w ∈ wsX7_was_r3, w ∈ wsX7_was := fun w h => by
  unfold wsX7_was
  exact List.mem_cons_of_mem _ (List.mem_append_left _ (List.mem_append_left _ (List.mem_append_left _ (List.mem_append_right _ (List.mem_append_right _ (List.mem_append_left _ h))))))
theorem in_wsX7_was_3 : ∀ w ∈ wsX7_was_r4, w ∈ wsX7_was := fun w h => by
  unfold wsX7_was
  exact List.mem_cons_of_mem _ (List.mem_append_left _ (List.mem_append_left _ (List.mem_append_left _ (List.mem_append_right _ (List.mem_append_right _ (List.mem_append_right _ h))))))
theorem in_wsX7_was_4 : ∀ w ∈ wsX70, w ∈ wsX7_was := fun w h => by
  unfold wsX7_was
  exact List.mem_cons_of_mem _ (List.mem_append_left _ (List.mem_append_left _ (List.mem_append_right _ h)))
theorem in_wsX7_was_5 : ∀ w ∈ wsX60, w ∈ wsX7_was := fun w h => by
  unfold wsX7_was
  exact List.mem_cons_of_mem _ (List.mem_append_left _ (List.mem_append_right _ h))
theorem in_wsX7_was_6 : ∀ w ∈ wsX00, w ∈ wsX7_was := fun w h => by
  unfold wsX7_was
  exact List.mem_cons_of_mem _ (List.mem_append_right _ h)
theorem in_wsX7_was_c : ∀ w ∈ [(.code yX7_was cX7_was 2 (some .int) : Cond)], w ∈ wsX7_was := fun w h => by
  rw [List.mem_singleton.mp h]; unfold wsX7_was
  exact List.mem_cons_self
theorem gw_wsX6_sweepBoth : wsX6_sweepBoth.all goodWord = true := by decide +kernel
theorem in_wsX7_ask_0 : ∀ w ∈ wsX7_ask_r1, w ∈ wsX7_ask := fun w h => by
  unfold wsX7_ask
  exact List.mem_cons_of_mem _ (List.mem_append_left _ (List.mem_append_left _ (List.mem_append_left _ (List.mem_append_left _ h))))
theorem in_wsX7_ask_1 : ∀ w ∈ wsX7_ask_r2, w ∈ wsX7_ask := fun w h => by
  unfold wsX7_ask
  exact List.mem_cons_of_mem _ (List.mem_append_left _ (List.mem_append_left _ (List.mem_append_left _ (List.mem_append_right _ (List.mem_append_left _ h)))))
theorem in_wsX7_ask_2 : ∀ w ∈ wsX7_ask_r3, w ∈ wsX7_ask := fun w h => by
  unfold wsX7_ask
  exact List.mem_cons_of_mem _ (List.mem_append_left _ (List.mem_append_left _ (List.mem_append_left _ (List.mem_append_right _ (List.mem_append_right _ (List.mem_append_left _ h))))))
theorem in_wsX7_ask_3 : ∀ w ∈ wsX7_ask_r4, w ∈ wsX7_ask := fun w h => by
  unfold wsX7_ask
  exact List.mem_cons_of_mem _ (List.mem_append_left _ (List.mem_append_left _ (List.mem_append_left _ (List.mem_append_right _ (List.mem_append_right _ (List.mem_append_right _ h))))))
theorem in_wsX7_ask_4 : ∀ w ∈ wsX70, w ∈ wsX7_ask := fun w h => by
  unfold wsX7_ask
  exact List.mem_cons_of_mem _ (List.mem_append_left _ (List.mem_append_left _ (List.mem_append_right _ h)))
theorem in_wsX7_ask_5 : ∀ w ∈ wsX60, w ∈ wsX7_ask := fun w h => by
  unfold wsX7_ask
  exact List.mem_cons_of_mem _ (List.mem_append_left _ (List.mem_append_right _ h))
theorem in_wsX7_ask_6 : ∀ w ∈ wsX00, w ∈ wsX7_ask := fun w h => by
  unfold wsX7_ask
  exact List.mem_cons_of_mem _ (List.mem_append_right _ h)
theorem in_wsX7_ask_c : ∀ w ∈ [(.code yX7_ask cX7_ask 1 (some .int) : Cond)], w ∈ wsX7_ask := fun w h => by
  rw [List.mem_singleton.mp h]; unfold wsX7_ask
  exact List.mem_cons_self
theorem gw_wsX6_widestMonth : wsX6_widestMonth.all goodWord = true := by decide +kernel
theorem in_wsX7_keep_0 : ∀ w ∈ ([cw_423, cw_581, cw_410, cw_582, cw_489, cw_583, cw_421, cw_422, cw_584, cw_49, cw_50, cw_51, cw_52, cw_27, cw_28, cw_29, cw_30, cw_31, cw_32, cw_33] : List Cond), w ∈ wsX7_keep := fun w h => by
  unfold wsX7_keep
  exact List.mem_cons_of_mem _ (List.mem_append_left _ (List.mem_append_left _ (List.mem_append_left _ h)))
theorem in_wsX7_keep_1 : ∀ w ∈ wsX70, w ∈ wsX7_keep := fun w h => by
  unfold wsX7_keep
  exact List.mem_cons_of_mem _ (List.mem_append_left _ (List.mem_append_left _ (List.mem_append_right _ h)))
theorem in_wsX7_keep_2 : ∀ w ∈ wsX20, w ∈ wsX7_keep := fun w h => by
  unfold wsX7_keep
  exact List.mem_cons_of_mem _ (List.mem_append_left _ (List.mem_append_right _ h))
theorem in_wsX7_keep_3 : ∀ w ∈ wsX10, w ∈ wsX7_keep := fun w h => by
  unfold wsX7_keep
  exact List.mem_cons_of_mem _ (List.mem_append_right _ h)
theorem in_wsX7_keep_c : ∀ w ∈ [(.code yX7_keep cX7_keep 2 (some .int) : Cond)], w ∈ wsX7_keep := fun w h => by
  rw [List.mem_singleton.mp h]; unfold wsX7_keep
  exact List.mem_cons_self
theorem in_wsX7_goBack_0 : ∀ w ∈ ([cw_423, cw_583, cw_509, cw_410, cw_581, cw_582, cw_489, cw_421, cw_422, cw_584, cw_49, cw_50, cw_51, cw_52, cw_27, cw_28, cw_29, cw_30, cw_31, cw_32, cw_33] : List Cond), w ∈ wsX7_goBack := fun w h => by
  unfold wsX7_goBack
  exact List.mem_cons_of_mem _ (List.mem_append_left _ (List.mem_append_left _ (List.mem_append_left _ h)))
theorem in_wsX7_goBack_1 : ∀ w ∈ wsX70, w ∈ wsX7_goBack := fun w h => by
  unfold wsX7_goBack
  exact List.mem_cons_of_mem _ (List.mem_append_left _ (List.mem_append_left _ (List.mem_append_right _ h)))
theorem in_wsX7_goBack_2 : ∀ w ∈ wsX20, w ∈ wsX7_goBack := fun w h => by
  unfold wsX7_goBack
  exact List.mem_cons_of_mem _ (List.mem_append_left _ (List.mem_append_right _ h))
theorem in_wsX7_goBack_3 : ∀ w ∈ wsX10, w ∈ wsX7_goBack := fun w h => by
  unfold wsX7_goBack
  exact List.mem_cons_of_mem _ (List.mem_append_right _ h)
theorem in_wsX7_goBack_c : ∀ w ∈ [(.code yX7_goBack cX7_goBack 2 (some .int) : Cond)], w ∈ wsX7_goBack := fun w h => by
  rw [List.mem_singleton.mp h]; unfold wsX7_goBack
  exact List.mem_cons_self
theorem in_wsX7_draw_0 : ∀ w ∈ ([cw_489, cw_490, cw_491, cw_492, cw_493] : List Cond), w ∈ wsX7_draw := fun w h => by
  unfold wsX7_draw
  exact List.mem_cons_of_mem _ (List.mem_append_left _ h)
theorem in_wsX7_draw_1 : ∀ w ∈ wsX70, w ∈ wsX7_draw := fun w h => by
  unfold wsX7_draw
  exact List.mem_cons_of_mem _ (List.mem_append_right _ h)
theorem in_wsX7_draw_c : ∀ w ∈ [(.code yX7_draw cX7_draw 2 (some .int) : Cond)], w ∈ wsX7_draw := fun w h => by
  rw [List.mem_singleton.mp h]; unfold wsX7_draw
  exact List.mem_cons_self
theorem gw_wsX7_draw : wsX7_draw.all goodWord = true := by decide +kernel
theorem in_wsX8_isTown_0 : ∀ w ∈ ([cw_585, cw_586, cw_587, cw_588, cw_589] : List Cond), w ∈ wsX8_isTown := fun w h => by
  unfold wsX8_isTown
  exact List.mem_cons_of_mem _ (List.mem_append_left _ h)
theorem in_wsX8_isTown_1 : ∀ w ∈ wsX80, w ∈ wsX8_isTown := fun w h => by
  unfold wsX8_isTown
  exact List.mem_cons_of_mem _ (List.mem_append_right _ h)
theorem in_wsX8_isTown_c : ∀ w ∈ [(.code yX8_isTown cX8_isTown 2 (some .boolean) : Cond)], w ∈ wsX8_isTown := fun w h => by
  rw [List.mem_singleton.mp h]; unfold wsX8_isTown
  exact List.mem_cons_self
theorem in_wsX8_in_c : ∀ w ∈ [(.code yX8_in cX8_in 3 (some .boolean) : Cond)], w ∈ wsX8_in := fun w h => by
  rw [List.mem_singleton.mp h]; unfold wsX8_in
  exact List.mem_cons_self
theorem gw_wsX8_in : wsX8_in.all goodWord = true := by decide +kernel
theorem in_wsX8_isRoad_0 : ∀ w ∈ ([cw_585, cw_586, cw_587, cw_588, cw_589] : List Cond), w ∈ wsX8_isRoad := fun w h => by
  unfold wsX8_isRoad
  exact List.mem_cons_of_mem _ (List.mem_append_left _ h)
theorem in_wsX8_isRoad_1 : ∀ w ∈ wsX80, w ∈ wsX8_isRoad := fun w h => by
  unfold wsX8_isRoad
  exact List.mem_cons_of_mem _ (List.mem_append_right _ h)
theorem in_wsX8_isRoad_c : ∀ w ∈ [(.code yX8_isRoad cX8_isRoad 2 (some .boolean) : Cond)], w ∈ wsX8_isRoad := fun w h => by
  rw [List.mem_singleton.mp h]; unfold wsX8_isRoad
  exact List.mem_cons_self
theorem in_wsX8_feed_0 : ∀ w ∈ ([cw_590, cw_591, cw_592, cw_593, cw_586, cw_587, cw_588, cw_589] : List Cond), w ∈ wsX8_feed := fun w h => by
  unfold wsX8_feed
  exact List.mem_cons_of_mem _ (List.mem_append_left _ h)
theorem in_wsX8_feed_1 : ∀ w ∈ wsX80, w ∈ wsX8_feed := fun w h => by
  unfold wsX8_feed
  exact List.mem_cons_of_mem _ (List.mem_append_right _ h)
theorem in_wsX8_feed_c : ∀ w ∈ [(.code yX8_feed cX8_feed 2 (some .int) : Cond)], w ∈ wsX8_feed := fun w h => by
  rw [List.mem_singleton.mp h]; unfold wsX8_feed
  exact List.mem_cons_self
theorem in_wsX8_number_0 : ∀ w ∈ ([cw_594, cw_596, cw_597, cw_591, cw_593, cw_598, cw_599, cw_600, cw_588, cw_601, cw_586, cw_587, cw_589, cw_602, cw_603, cw_604, cw_605, cw_595] : List Cond), w ∈ wsX8_number := fun w h => by
  unfold wsX8_number
  exact List.mem_cons_of_mem _ (List.mem_append_left _ h)
theorem in_wsX8_number_1 : ∀ w ∈ wsX80, w ∈ wsX8_number := fun w h => by
  unfold wsX8_number
  exact List.mem_cons_of_mem _ (List.mem_append_right _ h)
theorem in_wsX8_number_c : ∀ w ∈ [(.code yX8_number cX8_number 5 (some .boolean) : Cond)], w ∈ wsX8_number := fun w h => by
  rw [List.mem_singleton.mp h]; unfold wsX8_number
  exact List.mem_cons_self
theorem in_wsX8_letter_0 : ∀ w ∈ ([cw_594, cw_591, cw_593] : List Cond), w ∈ wsX8_letter := fun w h => by
  unfold wsX8_letter
  exact List.mem_cons_of_mem _ (List.mem_append_left _ h)
theorem in_wsX8_letter_1 : ∀ w ∈ wsX80, w ∈ wsX8_letter := fun w h => by
  unfold wsX8_letter
  exact List.mem_cons_of_mem _ (List.mem_append_right _ h)
theorem in_wsX8_letter_c : ∀ w ∈ [(.code yX8_letter cX8_letter 1 (some .int) : Cond)], w ∈ wsX8_letter := fun w h => by
  rw [List.mem_singleton.mp h]; unfold wsX8_letter
  exact List.mem_cons_self
theorem gw_wsX8_letter : wsX8_letter.all goodWord = true := by decide +kernel
theorem in_wsX8_isWrong_0 : ∀ w ∈ ([cw_595, cw_594] : List Cond), w ∈ wsX8_isWrong := fun w h => by
  unfold wsX8_isWrong
  exact List.mem_cons_of_mem _ (List.mem_append_left _ h)
theorem in_wsX8_isWrong_1 : ∀ w ∈ wsX80, w ∈ wsX8_isWrong := fun w h => by
  unfold wsX8_isWrong
  exact List.mem_cons_of_mem _ (List.mem_append_right _ h)
theorem in_wsX8_isWrong_c : ∀ w ∈ [(.code yX8_isWrong cX8_isWrong 3 (some .boolean) : Cond)], w ∈ wsX8_isWrong := fun w h => by
  rw [List.mem_singleton.mp h]; unfold wsX8_isWrong
  exact List.mem_cons_self
theorem gw_wsX8_isWrong : wsX8_isWrong.all goodWord = true := by decide +kernel
theorem in_wsX8_ends_0 : ∀ w ∈ ([cw_594, cw_598, cw_599, cw_600, cw_588, cw_601, cw_591, cw_593, cw_602, cw_603, cw_604, cw_605, cw_595] : List Cond), w ∈ wsX8_ends := fun w h => by
  unfold wsX8_ends
  exact List.mem_cons_of_mem _ (List.mem_append_left _ h)
theorem in_wsX8_ends_1 : ∀ w ∈ wsX80, w ∈ wsX8_ends := fun w h => by
  unfold wsX8_ends
  exact List.mem_cons_of_mem _ (List.mem_append_right _ h)
theorem in_wsX8_ends_c : ∀ w ∈ [(.code yX8_ends cX8_ends 1 (some .boolean) : Cond)], w ∈ wsX8_ends := fun w h => by
  rw [List.mem_singleton.mp h]; unfold wsX8_ends
  exact List.mem_cons_self
theorem in_wsX8_readsStay_0 : ∀ w ∈ wsX8_readsStay_r1, w ∈ wsX8_readsStay := fun w h => by
  unfold wsX8_readsStay
  exact List.mem_cons_of_mem _ (List.mem_append_left _ (List.mem_append_left _ h))
theorem in_wsX8_readsStay_1 : ∀ w ∈ wsX8_readsStay_r2, w ∈ wsX8_readsStay := fun w h => by
  unfold wsX8_readsStay
  exact List.mem_cons_of_mem _ (List.mem_append_left _ (List.mem_append_right _ h))
theorem in_wsX8_readsStay_2 : ∀ w ∈ wsX80, w ∈ wsX8_readsStay := fun w h => by
  unfold wsX8_readsStay
  exact List.mem_cons_of_mem _ (List.mem_append_right _ h)
theorem in_wsX8_readsStay_c : ∀ w ∈ [(.code yX8_readsStay cX8_readsStay 1 (some .boolean) : Cond)], w ∈ wsX8_readsStay := fun w h => by
  rw [List.mem_singleton.mp h]; unfold wsX8_readsStay
  exact List.mem_cons_self
theorem gw_wsX8_number : wsX8_number.all goodWord = true := by decide +kernel
theorem gw_wsX8_ends : wsX8_ends.all goodWord = true := by decide +kernel
theorem in_wsX8_readsTown_0 : ∀ w ∈ wsX8_readsTown_r1, w ∈ wsX8_readsTown := fun w h => by
  unfold wsX8_readsTown
  exact List.mem_cons_of_mem _ (List.mem_append_left _ (List.mem_append_left _ h))
theorem in_wsX8_readsTown_1 : ∀ w ∈ wsX8_readsTown_r2, w ∈ wsX8_readsTown := fun w h => by
  unfold wsX8_readsTown
  exact List.mem_cons_of_mem _ (List.mem_append_left _ (List.mem_append_right _ h))
theorem in_wsX8_readsTown_2 : ∀ w ∈ wsX80, w ∈ wsX8_readsTown := fun w h => by
  unfold wsX8_readsTown
  exact List.mem_cons_of_mem _ (List.mem_append_right _ h)
theorem in_wsX8_readsTown_c : ∀ w ∈ [(.code yX8_readsTown cX8_readsTown 2 (some .boolean) : Cond)], w ∈ wsX8_readsTown := fun w h => by
  rw [List.mem_singleton.mp h]; unfold wsX8_readsTown
  exact List.mem_cons_self
theorem in_wsX8_readsRoad_0 : ∀ w ∈ wsX8_readsRoad_r1, w ∈ wsX8_readsRoad := fun w h => by
  unfold wsX8_readsRoad
  exact List.mem_cons_of_mem _ (List.mem_append_left _ (List.mem_append_left _ h))
theorem in_wsX8_readsRoad_1 : ∀ w ∈ wsX8_readsRoad_r2, w ∈ wsX8_readsRoad := fun w h => by
  unfold wsX8_readsRoad
  exact List.mem_cons_of_mem _ (List.mem_append_left _ (List.mem_append_right _ h))
theorem in_wsX8_readsRoad_2 : ∀ w ∈ wsX80, w ∈ wsX8_readsRoad := fun w h => by
  unfold wsX8_readsRoad
  exact List.mem_cons_of_mem _ (List.mem_append_right _ h)
theorem in_wsX8_readsRoad_c : ∀ w ∈ [(.code yX8_readsRoad cX8_readsRoad 6 (some .boolean) : Cond)], w ∈ wsX8_readsRoad := fun w h => by
  rw [List.mem_singleton.mp h]; unfold wsX8_readsRoad
  exact List.mem_cons_self
theorem in_wsX8_readsClause_0 : ∀ w ∈ wsX8_readsClause_r1, w ∈ wsX8_readsClause := fun w h => by
  unfold wsX8_readsClause
  exact List.mem_cons_of_mem _ (List.mem_append_left _ (List.mem_append_left _ h))
theorem in_wsX8_readsClause_1 : ∀ w ∈ wsX8_readsClause_r2, w ∈ wsX8_readsClause := fun w h => by
  unfold wsX8_readsClause
  exact List.mem_cons_of_mem _ (List.mem_append_left _ (List.mem_append_right _ h))
theorem in_wsX8_readsClause_2 : ∀ w ∈ wsX80, w ∈ wsX8_readsClause := fun w h => by
  unfold wsX8_readsClause
  exact List.mem_cons_of_mem _ (List.mem_append_right _ h)
theorem in_wsX8_readsClause_c : ∀ w ∈ [(.code yX8_readsClause cX8_readsClause 3 (some .boolean) : Cond)], w ∈ wsX8_readsClause := fun w h => by
  rw [List.mem_singleton.mp h]; unfold wsX8_readsClause
  exact List.mem_cons_self
theorem gw_wsX8_readsStay : wsX8_readsStay.all goodWord = true := by decide +kernel
theorem gw_wsX8_readsTown : wsX8_readsTown.all goodWord = true := by decide +kernel
theorem gw_wsX8_readsRoad : wsX8_readsRoad.all goodWord = true := by decide +kernel
theorem in_wsX8_reads_0 : ∀ w ∈ wsX8_reads_r1, w ∈ wsX8_reads := fun w h => by
  unfold wsX8_reads
  exact List.mem_cons_of_mem _ (List.mem_append_left _ (List.mem_append_left _ h))
theorem in_wsX8_reads_1 : ∀ w ∈ wsX8_reads_r2, w ∈ wsX8_reads := fun w h => by
  unfold wsX8_reads
  exact List.mem_cons_of_mem _ (List.mem_append_left _ (List.mem_append_right _ h))
theorem in_wsX8_reads_2 : ∀ w ∈ wsX80, w ∈ wsX8_reads := fun w h => by
  unfold wsX8_reads
  exact List.mem_cons_of_mem _ (List.mem_append_right _ h)
theorem in_wsX8_reads_c : ∀ w ∈ [(.code yX8_reads cX8_reads 2 (some .boolean) : Cond)], w ∈ wsX8_reads := fun w h => by
  rw [List.mem_singleton.mp h]; unfold wsX8_reads
  exact List.mem_cons_self
theorem gw_wsX8_readsClause : wsX8_readsClause.all goodWord = true := by decide +kernel
theorem in_wsX8_land_0 : ∀ w ∈ wsX8_land_r1, w ∈ wsX8_land := fun w h => by
  unfold wsX8_land
  exact List.mem_cons_of_mem _ (List.mem_append_left _ (List.mem_append_left _ h))
theorem in_wsX8_land_1 : ∀ w ∈ wsX8_land_r2, w ∈ wsX8_land := fun w h => by
  unfold wsX8_land
  exact List.mem_cons_of_mem _ (List.mem_append_left _ (List.mem_append_right _ (List.mem_append_left _ h)))
theorem in_wsX8_land_2 : ∀ w ∈ wsX8_land_r3, w ∈ wsX8_land := fun w h => by
  unfold wsX8_land
  exact List.mem_cons_of_mem _ (List.mem_append_left _ (List.mem_append_right _ (List.mem_append_right _ h)))
theorem in_wsX8_land_3 : ∀ w ∈ wsX80, w ∈ wsX8_land := fun w h => by
  unfold wsX8_land
  exact List.mem_cons_of_mem _ (List.mem_append_right _ h)
theorem in_wsX8_land_c : ∀ w ∈ [(.code yX8_land cX8_land 3 (some .int) : Cond)], w ∈ wsX8_land := fun w h => by
  rw [List.mem_singleton.mp h]; unfold wsX8_land
  exact List.mem_cons_self
theorem gw_wsX8_reads : wsX8_reads.all goodWord = true := by decide +kernel
theorem in_wsX8_walks_0 : ∀ w ∈ ([cw_585, cw_665, cw_666, cw_667, cw_588, cw_668, cw_669, cw_670, cw_671, cw_672] : List Cond), w ∈ wsX8_walks := fun w h => by
  unfold wsX8_walks
  exact List.mem_cons_of_mem _ (List.mem_append_left _ h)
theorem in_wsX8_walks_1 : ∀ w ∈ wsX80, w ∈ wsX8_walks := fun w h => by
  unfold wsX8_walks
  exact List.mem_cons_of_mem _ (List.mem_append_right _ h)
theorem in_wsX8_walks_c : ∀ w ∈ [(.code yX8_walks cX8_walks 5 (some .int) : Cond)], w ∈ wsX8_walks := fun w h => by
  rw [List.mem_singleton.mp h]; unfold wsX8_walks
  exact List.mem_cons_self
theorem in_wsX8_leads_0 : ∀ w ∈ ([cw_585] : List Cond), w ∈ wsX8_leads := fun w h => by
  unfold wsX8_leads
  exact List.mem_cons_of_mem _ (List.mem_append_left _ h)
theorem in_wsX8_leads_1 : ∀ w ∈ wsX80, w ∈ wsX8_leads := fun w h => by
  unfold wsX8_leads
  exact List.mem_cons_of_mem _ (List.mem_append_right _ h)
theorem in_wsX8_leads_c : ∀ w ∈ [(.code yX8_leads cX8_leads 5 (some .int) : Cond)], w ∈ wsX8_leads := fun w h => by
  rw [List.mem_singleton.mp h]; unfold wsX8_leads
  exact List.mem_cons_self
theorem gw_wsX8_leads : wsX8_leads.all goodWord = true := by decide +kernel
theorem in_wsX8_isBanned_0 : ∀ w ∈ ([cw_585] : List Cond), w ∈ wsX8_isBanned := fun w h => by
  unfold wsX8_isBanned
  exact List.mem_cons_of_mem _ (List.mem_append_left _ h)
theorem in_wsX8_isBanned_1 : ∀ w ∈ wsX80, w ∈ wsX8_isBanned := fun w h => by
  unfold wsX8_isBanned
  exact List.mem_cons_of_mem _ (List.mem_append_right _ h)
theorem in_wsX8_isBanned_c : ∀ w ∈ [(.code yX8_isBanned cX8_isBanned 2 (some .boolean) : Cond)], w ∈ wsX8_isBanned := fun w h => by
  rw [List.mem_singleton.mp h]; unfold wsX8_isBanned
  exact List.mem_cons_self
theorem gw_wsX8_isBanned : wsX8_isBanned.all goodWord = true := by decide +kernel
theorem in_wsX8_town_0 : ∀ w ∈ ([cw_673, cw_585, cw_590, cw_674, cw_675, cw_676, cw_588, cw_677, cw_586, cw_587, cw_589, cw_665, cw_666, cw_667, cw_668, cw_669, cw_670, cw_671, cw_672] : List Cond), w ∈ wsX8_town := fun w h => by
  unfold wsX8_town
  exact List.mem_cons_of_mem _ (List.mem_append_left _ h)
theorem in_wsX8_town_1 : ∀ w ∈ wsX80, w ∈ wsX8_town := fun w h => by
  unfold wsX8_town
  exact List.mem_cons_of_mem _ (List.mem_append_right _ h)
theorem in_wsX8_town_c : ∀ w ∈ [(.code yX8_town cX8_town 3 (some .int) : Cond)], w ∈ wsX8_town := fun w h => by
  rw [List.mem_singleton.mp h]; unfold wsX8_town
  exact List.mem_cons_self
theorem gw_wsX8_isTown : wsX8_isTown.all goodWord = true := by decide +kernel
theorem in_wsX8_road_0 : ∀ w ∈ ([cw_673, cw_585, cw_661, cw_590, cw_678, cw_679, cw_680, cw_588, cw_681, cw_586, cw_587, cw_589] : List Cond), w ∈ wsX8_road := fun w h => by
  unfold wsX8_road
  exact List.mem_cons_of_mem _ (List.mem_append_left _ h)
theorem in_wsX8_road_1 : ∀ w ∈ wsX80, w ∈ wsX8_road := fun w h => by
  unfold wsX8_road
  exact List.mem_cons_of_mem _ (List.mem_append_right _ h)
theorem in_wsX8_road_c : ∀ w ∈ [(.code yX8_road cX8_road 3 (some .int) : Cond)], w ∈ wsX8_road := fun w h => by
  rw [List.mem_singleton.mp h]; unfold wsX8_road
  exact List.mem_cons_self
theorem gw_wsX8_isRoad : wsX8_isRoad.all goodWord = true := by decide +kernel
theorem in_wsX8_stays_0 : ∀ w ∈ ([cw_661, cw_585, cw_683, cw_684, cw_685, cw_588, cw_686] : List Cond), w ∈ wsX8_stays := fun w h => by
  unfold wsX8_stays
  exact List.mem_cons_of_mem _ (List.mem_append_left _ h)
theorem in_wsX8_stays_1 : ∀ w ∈ wsX80, w ∈ wsX8_stays := fun w h => by
  unfold wsX8_stays
  exact List.mem_cons_of_mem _ (List.mem_append_right _ h)
theorem in_wsX8_stays_c : ∀ w ∈ [(.code yX8_stays cX8_stays 3 (some .int) : Cond)], w ∈ wsX8_stays := fun w h => by
  rw [List.mem_singleton.mp h]; unfold wsX8_stays
  exact List.mem_cons_self
theorem in_wsX8_hasWork_0 : ∀ w ∈ ([cw_585] : List Cond), w ∈ wsX8_hasWork := fun w h => by
  unfold wsX8_hasWork
  exact List.mem_cons_of_mem _ (List.mem_append_left _ h)
theorem in_wsX8_hasWork_1 : ∀ w ∈ wsX80, w ∈ wsX8_hasWork := fun w h => by
  unfold wsX8_hasWork
  exact List.mem_cons_of_mem _ (List.mem_append_right _ h)
theorem in_wsX8_hasWork_c : ∀ w ∈ [(.code yX8_hasWork cX8_hasWork 3 (some .boolean) : Cond)], w ∈ wsX8_hasWork := fun w h => by
  rw [List.mem_singleton.mp h]; unfold wsX8_hasWork
  exact List.mem_cons_self
theorem gw_wsX8_hasWork : wsX8_hasWork.all goodWord = true := by decide +kernel
theorem in_wsX8_stay_0 : ∀ w ∈ wsX8_stay_r1, w ∈ wsX8_stay := fun w h => by
  unfold wsX8_stay
  exact List.mem_cons_of_mem _ (List.mem_append_left _ (List.mem_append_left _ h))
theorem in_wsX8_stay_1 : ∀ w ∈ wsX8_stay_r2, w ∈ wsX8_stay := fun w h => by
  unfold wsX8_stay
  exact List.mem_cons_of_mem _ (List.mem_append_left _ (List.mem_append_right _ h))
theorem in_wsX8_stay_2 : ∀ w ∈ wsX80, w ∈ wsX8_stay := fun w h => by
  unfold wsX8_stay
  exact List.mem_cons_of_mem _ (List.mem_append_right _ h)
theorem in_wsX8_stay_c : ∀ w ∈ [(.code yX8_stay cX8_stay 1 (some .int) : Cond)], w ∈ wsX8_stay := fun w h => by
  rw [List.mem_singleton.mp h]; unfold wsX8_stay
  exact List.mem_cons_self
theorem in_wsX8_goesOn_0 : ∀ w ∈ ([cw_585, cw_661] : List Cond), w ∈ wsX8_goesOn := fun w h => by
  unfold wsX8_goesOn
  exact List.mem_cons_of_mem _ (List.mem_append_left _ h)
theorem in_wsX8_goesOn_1 : ∀ w ∈ wsX80, w ∈ wsX8_goesOn := fun w h => by
  unfold wsX8_goesOn
  exact List.mem_cons_of_mem _ (List.mem_append_right _ h)
theorem in_wsX8_goesOn_c : ∀ w ∈ [(.code yX8_goesOn cX8_goesOn 1 (some .boolean) : Cond)], w ∈ wsX8_goesOn := fun w h => by
  rw [List.mem_singleton.mp h]; unfold wsX8_goesOn
  exact List.mem_cons_self
theorem gw_wsX8_goesOn : wsX8_goesOn.all goodWord = true := by decide +kernel
theorem in_wsX8_mayStay_0 : ∀ w ∈ ([cw_661, cw_585] : List Cond), w ∈ wsX8_mayStay := fun w h => by
  unfold wsX8_mayStay
  exact List.mem_cons_of_mem _ (List.mem_append_left _ h)
theorem in_wsX8_mayStay_1 : ∀ w ∈ wsX80, w ∈ wsX8_mayStay := fun w h => by
  unfold wsX8_mayStay
  exact List.mem_cons_of_mem _ (List.mem_append_right _ h)
theorem in_wsX8_mayStay_c : ∀ w ∈ [(.code yX8_mayStay cX8_mayStay 1 (some .boolean) : Cond)], w ∈ wsX8_mayStay := fun w h => by
  rw [List.mem_singleton.mp h]; unfold wsX8_mayStay
  exact List.mem_cons_self
theorem gw_wsX8_mayStay : wsX8_mayStay.all goodWord = true := by decide +kernel
theorem in_wsX8_keeps_0 : ∀ w ∈ ([cw_664, cw_682, cw_661] : List Cond), w ∈ wsX8_keeps := fun w h => by
  unfold wsX8_keeps
  exact List.mem_cons_of_mem _ (List.mem_append_left _ h)
theorem in_wsX8_keeps_1 : ∀ w ∈ wsX80, w ∈ wsX8_keeps := fun w h => by
  unfold wsX8_keeps
  exact List.mem_cons_of_mem _ (List.mem_append_right _ h)
theorem in_wsX8_keeps_c : ∀ w ∈ [(.code yX8_keeps cX8_keeps 2 none : Cond)], w ∈ wsX8_keeps := fun w h => by
  rw [List.mem_singleton.mp h]; unfold wsX8_keeps
  exact List.mem_cons_self
theorem gw_wsX8_keeps : wsX8_keeps.all goodWord = true := by decide +kernel
theorem gw_wsX8_stays : wsX8_stays.all goodWord = true := by decide +kernel
theorem in_wsX8_walk_0 : ∀ w ∈ wsX8_walk_r1, w ∈ wsX8_walk := fun w h => by
  unfold wsX8_walk
  exact List.mem_cons_of_mem _ (List.mem_append_left _ (List.mem_append_left _ h))
theorem in_wsX8_walk_1 : ∀ w ∈ wsX8_walk_r2, w ∈ wsX8_walk := fun w h => by
  unfold wsX8_walk
  exact List.mem_cons_of_mem _ (List.mem_append_left _ (List.mem_append_right _ h))
theorem in_wsX8_walk_2 : ∀ w ∈ wsX80, w ∈ wsX8_walk := fun w h => by
  unfold wsX8_walk
  exact List.mem_cons_of_mem _ (List.mem_append_right _ h)
theorem in_wsX8_walk_c : ∀ w ∈ [(.code yX8_walk cX8_walk 2 (some .int) : Cond)], w ∈ wsX8_walk := fun w h => by
  rw [List.mem_singleton.mp h]; unfold wsX8_walk
  exact List.mem_cons_self
theorem gw_wsX8_walks : wsX8_walks.all goodWord = true := by decide +kernel
theorem in_wsX8_goesTo_0 : ∀ w ∈ ([cw_661] : List Cond), w ∈ wsX8_goesTo := fun w h => by
  unfold wsX8_goesTo
  exact List.mem_cons_of_mem _ (List.mem_append_left _ h)
theorem in_wsX8_goesTo_1 : ∀ w ∈ wsX80, w ∈ wsX8_goesTo := fun w h => by
  unfold wsX8_goesTo
  exact List.mem_cons_of_mem _ (List.mem_append_right _ h)
theorem in_wsX8_goesTo_c : ∀ w ∈ [(.code yX8_goesTo cX8_goesTo 2 none : Cond)], w ∈ wsX8_goesTo := fun w h => by
  rw [List.mem_singleton.mp h]; unfold wsX8_goesTo
  exact List.mem_cons_self
theorem gw_wsX8_goesTo : wsX8_goesTo.all goodWord = true := by decide +kernel
theorem in_wsX8_war_0 : ∀ w ∈ ([cw_673, cw_661, cw_678, cw_679, cw_680, cw_588, cw_681, cw_585, cw_586, cw_587, cw_589, cw_731, cw_732, cw_733, cw_734, cw_664, cw_682] : List Cond), w ∈ wsX8_war := fun w h => by
  unfold wsX8_war
  exact List.mem_cons_of_mem _ (List.mem_append_left _ h)
theorem in_wsX8_war_1 : ∀ w ∈ wsX80, w ∈ wsX8_war := fun w h => by
  unfold wsX8_war
  exact List.mem_cons_of_mem _ (List.mem_append_right _ h)
theorem in_wsX8_war_c : ∀ w ∈ [(.code yX8_war cX8_war 4 (some .int) : Cond)], w ∈ wsX8_war := fun w h => by
  rw [List.mem_singleton.mp h]; unfold wsX8_war
  exact List.mem_cons_self
theorem in_wsX8_home_0 : ∀ w ∈ ([cw_661, cw_735, cw_736, cw_737, cw_738, cw_588, cw_739, cw_585, cw_731, cw_732, cw_733, cw_734, cw_664, cw_682] : List Cond), w ∈ wsX8_home := fun w h => by
  unfold wsX8_home
  exact List.mem_cons_of_mem _ (List.mem_append_left _ h)
theorem in_wsX8_home_1 : ∀ w ∈ wsX80, w ∈ wsX8_home := fun w h => by
  unfold wsX8_home
  exact List.mem_cons_of_mem _ (List.mem_append_right _ h)
theorem in_wsX8_home_c : ∀ w ∈ [(.code yX8_home cX8_home 1 (some .int) : Cond)], w ∈ wsX8_home := fun w h => by
  rw [List.mem_singleton.mp h]; unfold wsX8_home
  exact List.mem_cons_self
theorem in_wsX8_drifts_0 : ∀ w ∈ wsX8_drifts_r1, w ∈ wsX8_drifts := fun w h => by
  unfold wsX8_drifts
  exact List.mem_cons_of_mem _ (List.mem_append_left _ (List.mem_append_left _ h))
theorem in_wsX8_drifts_1 : ∀ w ∈ wsX8_drifts_r2, w ∈ wsX8_drifts := fun w h => by
  unfold wsX8_drifts
  exact List.mem_cons_of_mem _ (List.mem_append_left _ (List.mem_append_right _ h))
theorem in_wsX8_drifts_2 : ∀ w ∈ wsX80, w ∈ wsX8_drifts := fun w h => by
  unfold wsX8_drifts
  exact List.mem_cons_of_mem _ (List.mem_append_right _ h)
theorem in_wsX8_drifts_c : ∀ w ∈ [(.code yX8_drifts cX8_drifts 3 none : Cond)], w ∈ wsX8_drifts := fun w h => by
  rw [List.mem_singleton.mp h]; unfold wsX8_drifts
  exact List.mem_cons_self
theorem in_wsX8_draw_0 : ∀ w ∈ ([cw_740, cw_741, cw_742, cw_743, cw_744] : List Cond), w ∈ wsX8_draw := fun w h => by
  unfold wsX8_draw
  exact List.mem_cons_of_mem _ (List.mem_append_left _ h)
theorem in_wsX8_draw_1 : ∀ w ∈ wsX80, w ∈ wsX8_draw := fun w h => by
  unfold wsX8_draw
  exact List.mem_cons_of_mem _ (List.mem_append_right _ h)
theorem in_wsX8_draw_c : ∀ w ∈ [(.code yX8_draw cX8_draw 4 (some .int) : Cond)], w ∈ wsX8_draw := fun w h => by
  rw [List.mem_singleton.mp h]; unfold wsX8_draw
  exact List.mem_cons_self
theorem gw_wsX8_draw : wsX8_draw.all goodWord = true := by decide +kernel
theorem in_wsX8_least_c : ∀ w ∈ [(.code yX8_least cX8_least 3 (some .int) : Cond)], w ∈ wsX8_least := fun w h => by
  rw [List.mem_singleton.mp h]; unfold wsX8_least
  exact List.mem_cons_self
theorem gw_wsX8_least : wsX8_least.all goodWord = true := by decide +kernel
theorem in_wsX8_drift_0 : ∀ w ∈ wsX8_drift_r1, w ∈ wsX8_drift := fun w h => by
  unfold wsX8_drift
  exact List.mem_cons_of_mem _ (List.mem_append_left _ (List.mem_append_left _ h))
theorem in_wsX8_drift_1 : ∀ w ∈ wsX8_drift_r2, w ∈ wsX8_drift := fun w h => by
  unfold wsX8_drift
  exact List.mem_cons_of_mem _ (List.mem_append_left _ (List.mem_append_right _ (List.mem_append_left _ h)))
theorem in_wsX8_drift_2 : ∀ w ∈ wsX8_drift_r3, w ∈ wsX8_drift := fun w h => by
  unfold wsX8_drift
  exact List.mem_cons_of_mem _ (List.mem_append_left _ (List.mem_append_right _ (List.mem_append_right _ h)))
theorem in_wsX8_drift_3 : ∀ w ∈ wsX80, w ∈ wsX8_drift := fun w h => by
  unfold wsX8_drift
  exact List.mem_cons_of_mem _ (List.mem_append_right _ h)
theorem in_wsX8_drift_c : ∀ w ∈ [(.code yX8_drift cX8_drift 3 (some .int) : Cond)], w ∈ wsX8_drift := fun w h => by
  rw [List.mem_singleton.mp h]; unfold wsX8_drift
  exact List.mem_cons_self
theorem gw_wsX8_drifts : wsX8_drifts.all goodWord = true := by decide +kernel
theorem in_wsX8_has_0 : ∀ w ∈ ([cw_762, cw_763, cw_588, cw_764] : List Cond), w ∈ wsX8_has := fun w h => by
  unfold wsX8_has
  exact List.mem_cons_of_mem _ h
theorem in_wsX8_has_c : ∀ w ∈ [(.code yX8_has cX8_has 4 (some .boolean) : Cond)], w ∈ wsX8_has := fun w h => by
  rw [List.mem_singleton.mp h]; unfold wsX8_has
  exact List.mem_cons_self
theorem in_wsX8_bit_c : ∀ w ∈ [(.code yX8_bit cX8_bit 2 (some .long) : Cond)], w ∈ wsX8_bit := fun w h => by
  rw [List.mem_singleton.mp h]; unfold wsX8_bit
  exact List.mem_cons_self
theorem gw_wsX8_bit : wsX8_bit.all goodWord = true := by decide +kernel
theorem in_wsX8_goes_0 : ∀ w ∈ ([cw_585, cw_765, cw_766, cw_767, cw_588, cw_768, cw_665, cw_666, cw_667, cw_668, cw_669, cw_670, cw_671, cw_672, cw_769, cw_770, cw_771, cw_762, cw_763, cw_764] : List Cond), w ∈ wsX8_goes := fun w h => by
  unfold wsX8_goes
  exact List.mem_cons_of_mem _ (List.mem_append_left _ h)
theorem in_wsX8_goes_1 : ∀ w ∈ wsX80, w ∈ wsX8_goes := fun w h => by
  unfold wsX8_goes
  exact List.mem_cons_of_mem _ (List.mem_append_right _ h)
theorem in_wsX8_goes_c : ∀ w ∈ [(.code yX8_goes cX8_goes 11 (some .long) : Cond)], w ∈ wsX8_goes := fun w h => by
  rw [List.mem_singleton.mp h]; unfold wsX8_goes
  exact List.mem_cons_self
theorem gw_wsX8_has : wsX8_has.all goodWord = true := by decide +kernel
theorem in_wsX8_may_0 : ∀ w ∈ wsX8_may_r1, w ∈ wsX8_may := fun w h => by
  unfold wsX8_may
  exact List.mem_cons_of_mem _ (List.mem_append_left _ (List.mem_append_left _ h))
theorem in_wsX8_may_1 : ∀ w ∈ wsX8_may_r2, w ∈ wsX8_may := fun w h => by
  unfold wsX8_may
  exact List.mem_cons_of_mem _ (List.mem_append_left _ (List.mem_append_right _ h))
theorem in_wsX8_may_2 : ∀ w ∈ wsX80, w ∈ wsX8_may := fun w h => by
  unfold wsX8_may
  exact List.mem_cons_of_mem _ (List.mem_append_right _ h)
theorem in_wsX8_may_c : ∀ w ∈ [(.code yX8_may cX8_may 2 (some .int) : Cond)], w ∈ wsX8_may := fun w h => by
  rw [List.mem_singleton.mp h]; unfold wsX8_may
  exact List.mem_cons_self
theorem in_wsX8_reach_0 : ∀ w ∈ wsX8_reach_r1, w ∈ wsX8_reach := fun w h => by
  unfold wsX8_reach
  exact List.mem_cons_of_mem _ (List.mem_append_left _ (List.mem_append_left _ h))
theorem in_wsX8_reach_1 : ∀ w ∈ wsX8_reach_r2, w ∈ wsX8_reach := fun w h => by
  unfold wsX8_reach
  exact List.mem_cons_of_mem _ (List.mem_append_left _ (List.mem_append_right _ h))
theorem in_wsX8_reach_2 : ∀ w ∈ wsX80, w ∈ wsX8_reach := fun w h => by
  unfold wsX8_reach
  exact List.mem_cons_of_mem _ (List.mem_append_right _ h)
theorem in_wsX8_reach_c : ∀ w ∈ [(.code yX8_reach cX8_reach 6 (some .int) : Cond)], w ∈ wsX8_reach := fun w h => by
  rw [List.mem_singleton.mp h]; unfold wsX8_reach
  exact List.mem_cons_self
theorem in_wsX8_learns_0 : ∀ w ∈ ([cw_661, cw_585, cw_683, cw_684, cw_685, cw_588, cw_686] : List Cond), w ∈ wsX8_learns := fun w h => by
  unfold wsX8_learns
  exact List.mem_cons_of_mem _ (List.mem_append_left _ h)
theorem in_wsX8_learns_1 : ∀ w ∈ wsX80, w ∈ wsX8_learns := fun w h => by
  unfold wsX8_learns
  exact List.mem_cons_of_mem _ (List.mem_append_right _ h)
theorem in_wsX8_learns_c : ∀ w ∈ [(.code yX8_learns cX8_learns 3 (some .int) : Cond)], w ∈ wsX8_learns := fun w h => by
  rw [List.mem_singleton.mp h]; unfold wsX8_learns
  exact List.mem_cons_self
theorem in_wsX8_learnsMost_0 : ∀ w ∈ wsX8_learnsMost_r1, w ∈ wsX8_learnsMost := fun w h => by
  unfold wsX8_learnsMost
  exact List.mem_cons_of_mem _ (List.mem_append_left _ (List.mem_append_left _ h))
theorem in_wsX8_learnsMost_1 : ∀ w ∈ wsX8_learnsMost_r2, w ∈ wsX8_learnsMost := fun w h => by
  unfold wsX8_learnsMost
  exact List.mem_cons_of_mem _ (List.mem_append_left _ (List.mem_append_right _ h))
theorem in_wsX8_learnsMost_2 : ∀ w ∈ wsX80, w ∈ wsX8_learnsMost := fun w h => by
  unfold wsX8_learnsMost
  exact List.mem_cons_of_mem _ (List.mem_append_right _ h)
theorem in_wsX8_learnsMost_c : ∀ w ∈ [(.code yX8_learnsMost cX8_learnsMost 9 none : Cond)], w ∈ wsX8_learnsMost := fun w h => by
  rw [List.mem_singleton.mp h]; unfold wsX8_learnsMost
  exact List.mem_cons_self
theorem in_wsX8_mostAt_0 : ∀ w ∈ ([cw_773] : List Cond), w ∈ wsX8_mostAt := fun w h => by
  unfold wsX8_mostAt
  exact List.mem_cons_of_mem _ (List.mem_append_left _ h)
theorem in_wsX8_mostAt_1 : ∀ w ∈ wsX80, w ∈ wsX8_mostAt := fun w h => by
  unfold wsX8_mostAt
  exact List.mem_cons_of_mem _ (List.mem_append_right _ h)
theorem in_wsX8_mostAt_c : ∀ w ∈ [(.code yX8_mostAt cX8_mostAt 4 (some .int) : Cond)], w ∈ wsX8_mostAt := fun w h => by
  rw [List.mem_singleton.mp h]; unfold wsX8_mostAt
  exact List.mem_cons_self
theorem gw_wsX8_mostAt : wsX8_mostAt.all goodWord = true := by decide +kernel
theorem gw_wsX8_learns : wsX8_learns.all goodWord = true := by decide +kernel
theorem in_wsX8_best_0 : ∀ w ∈ wsX8_best_r1, w ∈ wsX8_best := fun w h => by
  unfold wsX8_best
  exact List.mem_cons_of_mem _ (List.mem_append_left _ (List.mem_append_left _ h))
theorem in_wsX8_best_1 : ∀ w ∈ wsX8_best_r2, w ∈ wsX8_best := fun w h => by
  unfold wsX8_best
  exact List.mem_cons_of_mem _ (List.mem_append_left _ (List.mem_append_right _ h))
theorem in_wsX8_best_2 : ∀ w ∈ wsX80, w ∈ wsX8_best := fun w h => by
  unfold wsX8_best
  exact List.mem_cons_of_mem _ (List.mem_append_right _ h)
theorem in_wsX8_best_c : ∀ w ∈ [(.code yX8_best cX8_best 11 (some .int) : Cond)], w ∈ wsX8_best := fun w h => by
  rw [List.mem_singleton.mp h]; unfold wsX8_best
  exact List.mem_cons_self
theorem gw_wsX8_learnsMost : wsX8_learnsMost.all goodWord = true := by decide +kernel
theorem in_wsX8_sealsOn_0 : ∀ w ∈ wsX8_sealsOn_r1, w ∈ wsX8_sealsOn := fun w h => by
  unfold wsX8_sealsOn
  exact List.mem_cons_of_mem _ (List.mem_append_left _ (List.mem_append_left _ h))
theorem in_wsX8_sealsOn_1 : ∀ w ∈ wsX8_sealsOn_r2, w ∈ wsX8_sealsOn := fun w h => by
  unfold wsX8_sealsOn
  exact List.mem_cons_of_mem _ (List.mem_append_left _ (List.mem_append_right _ h))
theorem in_wsX8_sealsOn_2 : ∀ w ∈ wsX80, w ∈ wsX8_sealsOn := fun w h => by
  unfold wsX8_sealsOn
  exact List.mem_cons_of_mem _ (List.mem_append_right _ h)
theorem in_wsX8_sealsOn_c : ∀ w ∈ [(.code yX8_sealsOn cX8_sealsOn 8 none : Cond)], w ∈ wsX8_sealsOn := fun w h => by
  rw [List.mem_singleton.mp h]; unfold wsX8_sealsOn
  exact List.mem_cons_self
theorem gw_wsX8_goes : wsX8_goes.all goodWord = true := by decide +kernel
theorem in_wsX8_towns_0 : ∀ w ∈ ([cw_772] : List Cond), w ∈ wsX8_towns := fun w h => by
  unfold wsX8_towns
  exact List.mem_cons_of_mem _ h
theorem in_wsX8_towns_c : ∀ w ∈ [(.code yX8_towns cX8_towns 4 (some .int) : Cond)], w ∈ wsX8_towns := fun w h => by
  rw [List.mem_singleton.mp h]; unfold wsX8_towns
  exact List.mem_cons_self
theorem gw_wsX8_towns : wsX8_towns.all goodWord = true := by decide +kernel
theorem in_wsX8_seals_0 : ∀ w ∈ wsX8_seals_r1, w ∈ wsX8_seals := fun w h => by
  unfold wsX8_seals
  exact List.mem_cons_of_mem _ (List.mem_append_left _ (List.mem_append_left _ h))
theorem in_wsX8_seals_1 : ∀ w ∈ wsX8_seals_r2, w ∈ wsX8_seals := fun w h => by
  unfold wsX8_seals
  exact List.mem_cons_of_mem _ (List.mem_append_left _ (List.mem_append_right _ h))
theorem in_wsX8_seals_2 : ∀ w ∈ wsX80, w ∈ wsX8_seals := fun w h => by
  unfold wsX8_seals
  exact List.mem_cons_of_mem _ (List.mem_append_right _ h)
theorem in_wsX8_seals_c : ∀ w ∈ [(.code yX8_seals cX8_seals 4 (some .int) : Cond)], w ∈ wsX8_seals := fun w h => by
  rw [List.mem_singleton.mp h]; unfold wsX8_seals
  exact List.mem_cons_self
theorem gw_wsX8_sealsOn : wsX8_sealsOn.all goodWord = true := by decide +kernel
theorem in_wsX8_two_0 : ∀ w ∈ wsX8_two_r1, w ∈ wsX8_two := fun w h => by
  unfold wsX8_two
  exact List.mem_cons_of_mem _ (List.mem_append_left _ (List.mem_append_left _ h))
theorem in_wsX8_two_1 : ∀ w ∈ wsX8_two_r2, w ∈ wsX8_two := fun w h => by
  unfold wsX8_two
  exact List.mem_cons_of_mem _ (List.mem_append_left _ (List.mem_append_right _ h))
theorem in_wsX8_two_2 : ∀ w ∈ wsX80, w ∈ wsX8_two := fun w h => by
  unfold wsX8_two
  exact List.mem_cons_of_mem _ (List.mem_append_right _ h)
theorem in_wsX8_two_c : ∀ w ∈ [(.code yX8_two cX8_two 7 (some .int) : Cond)], w ∈ wsX8_two := fun w h => by
  rw [List.mem_singleton.mp h]; unfold wsX8_two
  exact List.mem_cons_self
theorem in_wsX8_idle_0 : ∀ w ∈ ([cw_585, cw_669, cw_670, cw_671, cw_588, cw_672] : List Cond), w ∈ wsX8_idle := fun w h => by
  unfold wsX8_idle
  exact List.mem_cons_of_mem _ (List.mem_append_left _ h)
theorem in_wsX8_idle_1 : ∀ w ∈ wsX80, w ∈ wsX8_idle := fun w h => by
  unfold wsX8_idle
  exact List.mem_cons_of_mem _ (List.mem_append_right _ h)
theorem in_wsX8_idle_c : ∀ w ∈ [(.code yX8_idle cX8_idle 3 (some .int) : Cond)], w ∈ wsX8_idle := fun w h => by
  rw [List.mem_singleton.mp h]; unfold wsX8_idle
  exact List.mem_cons_self
theorem in_wsX8_stranded_0 : ∀ w ∈ ([cw_585, cw_661, cw_765, cw_766, cw_767, cw_588, cw_768, cw_665, cw_666, cw_667, cw_668, cw_669, cw_670, cw_671, cw_672] : List Cond), w ∈ wsX8_stranded := fun w h => by
  unfold wsX8_stranded
  exact List.mem_cons_of_mem _ (List.mem_append_left _ h)
theorem in_wsX8_stranded_1 : ∀ w ∈ wsX80, w ∈ wsX8_stranded := fun w h => by
  unfold wsX8_stranded
  exact List.mem_cons_of_mem _ (List.mem_append_right _ h)
theorem in_wsX8_stranded_c : ∀ w ∈ [(.code yX8_stranded cX8_stranded 3 (some .int) : Cond)], w ∈ wsX8_stranded := fun w h => by
  rw [List.mem_singleton.mp h]; unfold wsX8_stranded
  exact List.mem_cons_self
theorem in_wsX8_snow_0 : ∀ w ∈ ([cw_590, cw_807, cw_808, cw_586, cw_587, cw_588, cw_589] : List Cond), w ∈ wsX8_snow := fun w h => by
  unfold wsX8_snow
  exact List.mem_cons_of_mem _ h
theorem in_wsX8_snow_c : ∀ w ∈ [(.code yX8_snow cX8_snow 6 (some .int) : Cond)], w ∈ wsX8_snow := fun w h => by
  rw [List.mem_singleton.mp h]; unfold wsX8_snow
  exact List.mem_cons_self
theorem in_wsX8_seal_0 : ∀ w ∈ ([cw_673, cw_590, cw_662, cw_592, cw_809, cw_674, cw_675, cw_676, cw_588, cw_677, cw_585, cw_586, cw_587, cw_589] : List Cond), w ∈ wsX8_seal := fun w h => by
  unfold wsX8_seal
  exact List.mem_cons_of_mem _ (List.mem_append_left _ h)
theorem in_wsX8_seal_1 : ∀ w ∈ wsX80, w ∈ wsX8_seal := fun w h => by
  unfold wsX8_seal
  exact List.mem_cons_of_mem _ (List.mem_append_right _ h)
theorem in_wsX8_seal_c : ∀ w ∈ [(.code yX8_seal cX8_seal 3 (some .int) : Cond)], w ∈ wsX8_seal := fun w h => by
  rw [List.mem_singleton.mp h]; unfold wsX8_seal
  exact List.mem_cons_self
theorem in_wsX8_onlyIn_0 : ∀ w ∈ ([cw_662, cw_809, cw_683, cw_684, cw_685, cw_588, cw_686, cw_585] : List Cond), w ∈ wsX8_onlyIn := fun w h => by
  unfold wsX8_onlyIn
  exact List.mem_cons_of_mem _ (List.mem_append_left _ h)
theorem in_wsX8_onlyIn_1 : ∀ w ∈ wsX80, w ∈ wsX8_onlyIn := fun w h => by
  unfold wsX8_onlyIn
  exact List.mem_cons_of_mem _ (List.mem_append_right _ h)
theorem in_wsX8_onlyIn_c : ∀ w ∈ [(.code yX8_onlyIn cX8_onlyIn 6 (some .int) : Cond)], w ∈ wsX8_onlyIn := fun w h => by
  rw [List.mem_singleton.mp h]; unfold wsX8_onlyIn
  exact List.mem_cons_self
theorem in_wsX8_fitsBut_0 : ∀ w ∈ wsX8_fitsBut_r1, w ∈ wsX8_fitsBut := fun w h => by
  unfold wsX8_fitsBut
  exact List.mem_cons_of_mem _ (List.mem_append_left _ (List.mem_append_left _ h))
theorem in_wsX8_fitsBut_1 : ∀ w ∈ wsX8_fitsBut_r2, w ∈ wsX8_fitsBut := fun w h => by
  unfold wsX8_fitsBut
  exact List.mem_cons_of_mem _ (List.mem_append_left _ (List.mem_append_right _ h))
theorem in_wsX8_fitsBut_2 : ∀ w ∈ wsX80, w ∈ wsX8_fitsBut := fun w h => by
  unfold wsX8_fitsBut
  exact List.mem_cons_of_mem _ (List.mem_append_right _ h)
theorem in_wsX8_fitsBut_c : ∀ w ∈ [(.code yX8_fitsBut cX8_fitsBut 3 (some .boolean) : Cond)], w ∈ wsX8_fitsBut := fun w h => by
  rw [List.mem_singleton.mp h]; unfold wsX8_fitsBut
  exact List.mem_cons_self
theorem gw_wsX8_onlyIn : wsX8_onlyIn.all goodWord = true := by decide +kernel
theorem in_wsX8_fits_0 : ∀ w ∈ wsX8_fits_r1, w ∈ wsX8_fits := fun w h => by
  unfold wsX8_fits
  exact List.mem_cons_of_mem _ (List.mem_append_left _ (List.mem_append_left _ h))
theorem in_wsX8_fits_1 : ∀ w ∈ wsX8_fits_r2, w ∈ wsX8_fits := fun w h => by
  unfold wsX8_fits
  exact List.mem_cons_of_mem _ (List.mem_append_left _ (List.mem_append_right _ h))
theorem in_wsX8_fits_2 : ∀ w ∈ wsX80, w ∈ wsX8_fits := fun w h => by
  unfold wsX8_fits
  exact List.mem_cons_of_mem _ (List.mem_append_right _ h)
theorem in_wsX8_fits_c : ∀ w ∈ [(.code yX8_fits cX8_fits 1 (some .int) : Cond)], w ∈ wsX8_fits := fun w h => by
  rw [List.mem_singleton.mp h]; unfold wsX8_fits
  exact List.mem_cons_self
theorem gw_wsX8_fitsBut : wsX8_fitsBut.all goodWord = true := by decide +kernel
theorem in_wsX8_bought_0 : ∀ w ∈ wsX8_bought_r1, w ∈ wsX8_bought := fun w h => by
  unfold wsX8_bought
  exact List.mem_cons_of_mem _ (List.mem_append_left _ (List.mem_append_left _ h))
theorem in_wsX8_bought_1 : ∀ w ∈ wsX8_bought_r2, w ∈ wsX8_bought := fun w h => by
  unfold wsX8_bought
  exact List.mem_cons_of_mem _ (List.mem_append_left _ (List.mem_append_right _ h))
theorem in_wsX8_bought_2 : ∀ w ∈ wsX80, w ∈ wsX8_bought := fun w h => by
  unfold wsX8_bought
  exact List.mem_cons_of_mem _ (List.mem_append_right _ h)
theorem in_wsX8_bought_c : ∀ w ∈ [(.code yX8_bought cX8_bought 3 (some .int) : Cond)], w ∈ wsX8_bought := fun w h => by
  rw [List.mem_singleton.mp h]; unfold wsX8_bought
  exact List.mem_cons_self
theorem in_wsX8_ledTo_0 : ∀ w ∈ ([cw_820, cw_821, cw_822, cw_588, cw_823, cw_585, cw_765, cw_766, cw_767, cw_768, cw_665, cw_666, cw_667, cw_668, cw_669, cw_670, cw_671, cw_672, cw_769, cw_770, cw_771, cw_762, cw_763, cw_764] : List Cond), w ∈ wsX8_ledTo := fun w h => by
  unfold wsX8_ledTo
  exact List.mem_cons_of_mem _ (List.mem_append_left _ h)
theorem in_wsX8_ledTo_1 : ∀ w ∈ wsX80, w ∈ wsX8_ledTo := fun w h => by
  unfold wsX8_ledTo
  exact List.mem_cons_of_mem _ (List.mem_append_right _ h)
theorem in_wsX8_ledTo_c : ∀ w ∈ [(.code yX8_ledTo cX8_ledTo 11 (some .long) : Cond)], w ∈ wsX8_ledTo := fun w h => by
  rw [List.mem_singleton.mp h]; unfold wsX8_ledTo
  exact List.mem_cons_self
theorem in_wsX8_waysOn_0 : ∀ w ∈ wsX8_waysOn_r1, w ∈ wsX8_waysOn := fun w h => by
  unfold wsX8_waysOn
  exact List.mem_cons_of_mem _ (List.mem_append_left _ (List.mem_append_left _ h))
theorem in_wsX8_waysOn_1 : ∀ w ∈ wsX8_waysOn_r2, w ∈ wsX8_waysOn := fun w h => by
  unfold wsX8_waysOn
  exact List.mem_cons_of_mem _ (List.mem_append_left _ (List.mem_append_right _ h))
theorem in_wsX8_waysOn_2 : ∀ w ∈ wsX80, w ∈ wsX8_waysOn := fun w h => by
  unfold wsX8_waysOn
  exact List.mem_cons_of_mem _ (List.mem_append_right _ h)
theorem in_wsX8_waysOn_c : ∀ w ∈ [(.code yX8_waysOn cX8_waysOn 2 none : Cond)], w ∈ wsX8_waysOn := fun w h => by
  rw [List.mem_singleton.mp h]; unfold wsX8_waysOn
  exact List.mem_cons_self
theorem gw_wsX8_ledTo : wsX8_ledTo.all goodWord = true := by decide +kernel
theorem in_wsX8_was_0 : ∀ w ∈ wsX8_was_r1, w ∈ wsX8_was := fun w h => by
  unfold wsX8_was
  exact List.mem_cons_of_mem _ (List.mem_append_left _ (List.mem_append_left _ h))
theorem in_wsX8_was_1 : ∀ w ∈ wsX8_was_r2, w ∈ wsX8_was := fun w h => by
  unfold wsX8_was
  exact List.mem_cons_of_mem _ (List.mem_append_left _ (List.mem_append_right _ (List.mem_append_left _ h)))
theorem in_wsX8_was_2 : ∀ w ∈ wsX8_was_r3, w ∈ wsX8_was := fun w h => by
  unfold wsX8_was
  exact List.mem_cons_of_mem _ (List.mem_append_left _ (List.mem_append_right _ (List.mem_append_right _ h)))
theorem in_wsX8_was_3 : ∀ w ∈ wsX80, w ∈ wsX8_was := fun w h => by
  unfold wsX8_was
  exact List.mem_cons_of_mem _ (List.mem_append_right _ h)
theorem in_wsX8_was_c : ∀ w ∈ [(.code yX8_was cX8_was 2 (some .int) : Cond)], w ∈ wsX8_was := fun w h => by
  rw [List.mem_singleton.mp h]; unfold wsX8_was
  exact List.mem_cons_self
theorem gw_wsX8_waysOn : wsX8_waysOn.all goodWord = true := by decide +kernel
theorem in_wsX8_ask_0 : ∀ w ∈ wsX8_ask_r1, w ∈ wsX8_ask := fun w h => by
  unfold wsX8_ask
  exact List.mem_cons_of_mem _ (List.mem_append_left _ (List.mem_append_left _ h))
theorem in_wsX8_ask_1 : ∀ w ∈ wsX8_ask_r2, w ∈ wsX8_ask := fun w h => by
  unfold wsX8_ask
  exact List.mem_cons_of_mem _ (List.mem_append_left _ (List.mem_append_right _ (List.mem_append_left _ h)))
theorem in_wsX8_ask_2 : ∀ w ∈ wsX8_ask_r3, w ∈ wsX8_ask := fun w h => by
  unfold wsX8_ask
  exact List.mem_cons_of_mem _ (List.mem_append_left _ (List.mem_append_right _ (List.mem_append_right _ h)))
theorem in_wsX8_ask_3 : ∀ w ∈ wsX80, w ∈ wsX8_ask := fun w h => by
  unfold wsX8_ask
  exact List.mem_cons_of_mem _ (List.mem_append_right _ h)
theorem in_wsX8_ask_c : ∀ w ∈ [(.code yX8_ask cX8_ask 5 (some .int) : Cond)], w ∈ wsX8_ask := fun w h => by
  rw [List.mem_singleton.mp h]; unfold wsX8_ask
  exact List.mem_cons_self
theorem in_wsX8_ones_c : ∀ w ∈ [(.code yX8_ones cX8_ones 3 (some .int) : Cond)], w ∈ wsX8_ones := fun w h => by
  rw [List.mem_singleton.mp h]; unfold wsX8_ones
  exact List.mem_cons_self
theorem gw_wsX8_ones : wsX8_ones.all goodWord = true := by decide +kernel
theorem in_wsX8_write_0 : ∀ w ∈ ([cw_590, cw_663, cw_592, cw_835, cw_586, cw_587, cw_588, cw_589] : List Cond), w ∈ wsX8_write := fun w h => by
  unfold wsX8_write
  exact List.mem_cons_of_mem _ (List.mem_append_left _ h)
theorem in_wsX8_write_1 : ∀ w ∈ wsX80, w ∈ wsX8_write := fun w h => by
  unfold wsX8_write
  exact List.mem_cons_of_mem _ (List.mem_append_right _ h)
theorem in_wsX8_write_c : ∀ w ∈ [(.code yX8_write cX8_write 2 (some .int) : Cond)], w ∈ wsX8_write := fun w h => by
  rw [List.mem_singleton.mp h]; unfold wsX8_write
  exact List.mem_cons_self
theorem in_wsX8_keep_0 : ∀ w ∈ ([cw_673, cw_836, cw_661, cw_740, cw_837, cw_664, cw_586, cw_587, cw_588, cw_589] : List Cond), w ∈ wsX8_keep := fun w h => by
  unfold wsX8_keep
  exact List.mem_cons_of_mem _ (List.mem_append_left _ h)
theorem in_wsX8_keep_1 : ∀ w ∈ wsX80, w ∈ wsX8_keep := fun w h => by
  unfold wsX8_keep
  exact List.mem_cons_of_mem _ (List.mem_append_right _ h)
theorem in_wsX8_keep_c : ∀ w ∈ [(.code yX8_keep cX8_keep 3 (some .int) : Cond)], w ∈ wsX8_keep := fun w h => by
  rw [List.mem_singleton.mp h]; unfold wsX8_keep
  exact List.mem_cons_self
theorem in_wsX8_goBack_0 : ∀ w ∈ ([cw_673, cw_837, cw_735, cw_661, cw_836, cw_740, cw_664, cw_586, cw_587, cw_588, cw_589] : List Cond), w ∈ wsX8_goBack := fun w h => by
  unfold wsX8_goBack
  exact List.mem_cons_of_mem _ (List.mem_append_left _ h)
theorem in_wsX8_goBack_1 : ∀ w ∈ wsX80, w ∈ wsX8_goBack := fun w h => by
  unfold wsX8_goBack
  exact List.mem_cons_of_mem _ (List.mem_append_right _ h)
theorem in_wsX8_goBack_c : ∀ w ∈ [(.code yX8_goBack cX8_goBack 3 (some .int) : Cond)], w ∈ wsX8_goBack := fun w h => by
  rw [List.mem_singleton.mp h]; unfold wsX8_goBack
  exact List.mem_cons_self
theorem in_wsX7_feed_0 : ∀ w ∈ ([cw_375, cw_376, cw_377, cw_378, cw_379] : List Cond), w ∈ wsX7_feed := fun w h => by
  unfold wsX7_feed
  exact List.mem_cons_of_mem _ (List.mem_append_left _ (List.mem_append_left _ h))
theorem in_wsX7_feed_1 : ∀ w ∈ wsX70, w ∈ wsX7_feed := fun w h => by
  unfold wsX7_feed
  exact List.mem_cons_of_mem _ (List.mem_append_left _ (List.mem_append_right _ h))
theorem in_wsX7_feed_2 : ∀ w ∈ wsX50, w ∈ wsX7_feed := fun w h => by
  unfold wsX7_feed
  exact List.mem_cons_of_mem _ (List.mem_append_right _ h)
theorem in_wsX7_feed_c : ∀ w ∈ [(.code yX7_feed cX7_feed 2 (some .int) : Cond)], w ∈ wsX7_feed := fun w h => by
  rw [List.mem_singleton.mp h]; unfold wsX7_feed
  exact List.mem_cons_self
theorem in_wsX7_fault_0 : ∀ w ∈ ([cw_376, cw_404] : List Cond), w ∈ wsX7_fault := fun w h => by
  unfold wsX7_fault
  exact List.mem_cons_of_mem _ (List.mem_append_left _ (List.mem_append_left _ h))
theorem in_wsX7_fault_1 : ∀ w ∈ wsX70, w ∈ wsX7_fault := fun w h => by
  unfold wsX7_fault
  exact List.mem_cons_of_mem _ (List.mem_append_left _ (List.mem_append_right _ h))
theorem in_wsX7_fault_2 : ∀ w ∈ wsX50, w ∈ wsX7_fault := fun w h => by
  unfold wsX7_fault
  exact List.mem_cons_of_mem _ (List.mem_append_right _ h)
theorem in_wsX7_fault_c : ∀ w ∈ [(.code yX7_fault cX7_fault 1 (some .int) : Cond)], w ∈ wsX7_fault := fun w h => by
  rw [List.mem_singleton.mp h]; unfold wsX7_fault
  exact List.mem_cons_self
theorem in_wsX7_told_0 : ∀ w ∈ ([cw_405, cw_406, cw_407, cw_408, cw_409, cw_376, cw_377, cw_410, cw_411, cw_412, cw_413, cw_414, cw_415, cw_416, cw_417, cw_418, cw_419, cw_420, cw_421, cw_422, cw_375] : List Cond), w ∈ wsX7_told := fun w h => by
  unfold wsX7_told
  exact List.mem_cons_of_mem _ (List.mem_append_left _ (List.mem_append_left _ (List.mem_append_left _ (List.mem_append_left _ (List.mem_append_left _ (List.mem_append_left _ h))))))
theorem in_wsX7_told_1 : ∀ w ∈ wsX70, w ∈ wsX7_told := fun w h => by
  unfold wsX7_told
  exact List.mem_cons_of_mem _ (List.mem_append_left _ (List.mem_append_left _ (List.mem_append_left _ (List.mem_append_left _ (List.mem_append_left _ (List.mem_append_right _ h))))))
theorem in_wsX7_told_2 : ∀ w ∈ wsX00, w ∈ wsX7_told := fun w h => by
  unfold wsX7_told
  exact List.mem_cons_of_mem _ (List.mem_append_left _ (List.mem_append_left _ (List.mem_append_left _ (List.mem_append_left _ (List.mem_append_right _ h)))))
theorem in_wsX7_told_3 : ∀ w ∈ wsX50, w ∈ wsX7_told := fun w h => by
  unfold wsX7_told
  exact List.mem_cons_of_mem _ (List.mem_append_left _ (List.mem_append_left _ (List.mem_append_left _ (List.mem_append_right _ h))))
theorem in_wsX7_told_4 : ∀ w ∈ wsX10, w ∈ wsX7_told := fun w h => by
  unfold wsX7_told
  exact List.mem_cons_of_mem _ (List.mem_append_left _ (List.mem_append_left _ (List.mem_append_right _ h)))
theorem in_wsX7_told_5 : ∀ w ∈ wsX60, w ∈ wsX7_told := fun w h => by
  unfold wsX7_told
  exact List.mem_cons_of_mem _ (List.mem_append_left _ (List.mem_append_right _ h))
theorem in_wsX7_told_6 : ∀ w ∈ wsX20, w ∈ wsX7_told := fun w h => by
  unfold wsX7_told
  exact List.mem_cons_of_mem _ (List.mem_append_right _ h)
theorem in_wsX7_told_c : ∀ w ∈ [(.code yX7_told cX7_told 2 (some .int) : Cond)], w ∈ wsX7_told := fun w h => by
  rw [List.mem_singleton.mp h]; unfold wsX7_told
  exact List.mem_cons_self
theorem in_wsX7_snow_0 : ∀ w ∈ ([cw_375, cw_549, cw_550] : List Cond), w ∈ wsX7_snow := fun w h => by
  unfold wsX7_snow
  exact List.mem_cons_of_mem _ h
theorem in_wsX7_snow_c : ∀ w ∈ [(.code yX7_snow cX7_snow 6 (some .int) : Cond)], w ∈ wsX7_snow := fun w h => by
  rw [List.mem_singleton.mp h]; unfold wsX7_snow
  exact List.mem_cons_self
theorem in_wsX7_write_0 : ∀ w ∈ ([cw_375, cw_420, cw_378, cw_580] : List Cond), w ∈ wsX7_write := fun w h => by
  unfold wsX7_write
  exact List.mem_cons_of_mem _ (List.mem_append_left _ h)
theorem in_wsX7_write_1 : ∀ w ∈ wsX70, w ∈ wsX7_write := fun w h => by
  unfold wsX7_write
  exact List.mem_cons_of_mem _ (List.mem_append_right _ h)
theorem in_wsX7_write_c : ∀ w ∈ [(.code yX7_write cX7_write 2 (some .int) : Cond)], w ∈ wsX7_write := fun w h => by
  rw [List.mem_singleton.mp h]; unfold wsX7_write
  exact List.mem_cons_self
theorem in_wsX7_tear_0 : ∀ w ∈ ([cw_418, cw_419, cw_420] : List Cond), w ∈ wsX7_tear := fun w h => by
  unfold wsX7_tear
  exact List.mem_cons_of_mem _ (List.mem_append_left _ (List.mem_append_left _ h))
theorem in_wsX7_tear_1 : ∀ w ∈ wsX70, w ∈ wsX7_tear := fun w h => by
  unfold wsX7_tear
  exact List.mem_cons_of_mem _ (List.mem_append_left _ (List.mem_append_right _ h))
theorem in_wsX7_tear_2 : ∀ w ∈ wsX60, w ∈ wsX7_tear := fun w h => by
  unfold wsX7_tear
  exact List.mem_cons_of_mem _ (List.mem_append_right _ h)
theorem in_wsX7_tear_c : ∀ w ∈ [(.code yX7_tear cX7_tear 2 (some .int) : Cond)], w ∈ wsX7_tear := fun w h => by
  rw [List.mem_singleton.mp h]; unfold wsX7_tear
  exact List.mem_cons_self
theorem in_wsX7_judge_0 : ∀ w ∈ ([cw_420, cw_580, cw_410, cw_414] : List Cond), w ∈ wsX7_judge := fun w h => by
  unfold wsX7_judge
  exact List.mem_cons_of_mem _ (List.mem_append_left _ (List.mem_append_left _ h))
theorem in_wsX7_judge_1 : ∀ w ∈ wsX70, w ∈ wsX7_judge := fun w h => by
  unfold wsX7_judge
  exact List.mem_cons_of_mem _ (List.mem_append_left _ (List.mem_append_right _ h))
theorem in_wsX7_judge_2 : ∀ w ∈ wsX10, w ∈ wsX7_judge := fun w h => by
  unfold wsX7_judge
  exact List.mem_cons_of_mem _ (List.mem_append_right _ h)
theorem in_wsX7_judge_c : ∀ w ∈ [(.code yX7_judge cX7_judge 2 (some .int) : Cond)], w ∈ wsX7_judge := fun w h => by
  rw [List.mem_singleton.mp h]; unfold wsX7_judge
  exact List.mem_cons_self
theorem in_wsX7_seed_0 : ∀ w ∈ ([cw_375, cw_489] : List Cond), w ∈ wsX7_seed := fun w h => by
  unfold wsX7_seed
  exact List.mem_cons_of_mem _ (List.mem_append_left _ h)
theorem in_wsX7_seed_1 : ∀ w ∈ wsX70, w ∈ wsX7_seed := fun w h => by
  unfold wsX7_seed
  exact List.mem_cons_of_mem _ (List.mem_append_right _ h)
theorem in_wsX7_seed_c : ∀ w ∈ [(.code yX7_seed cX7_seed 3 (some .int) : Cond)], w ∈ wsX7_seed := fun w h => by
  rw [List.mem_singleton.mp h]; unfold wsX7_seed
  exact List.mem_cons_self
theorem in_wsX8_init_0 : ∀ w ∈ ([.methodLink RX8 1 objectInit, .instanceMethod objectInit, .code objectInit ⟨#[0xb1]⟩ 1 none, .arrayClass .int, .fieldLink RX8 7 "JourneyRoadsModel" "text" "[I", .fieldLink RX8 13 "JourneyRoadsModel" "told" "[I", .fieldLink RX8 16 "JourneyRoadsModel" "draft" "[I", .fieldLink RX8 19 "JourneyRoadsModel" "s" "[I", .fieldLink RX8 22 "JourneyRoadsModel" "past" "[I", .fieldLink RX8 25 "JourneyRoadsModel" "images" "[I", .arrayClass .boolean, .fieldLink RX8 28 "JourneyRoadsModel" "kept" "[Z", .fieldLink RX8 32 "JourneyRoadsModel" "notes" "[I", .fieldLink RX8 35 "JourneyRoadsModel" "book" "[I", .fieldLink RX8 38 "JourneyRoadsModel" "place" "I", .fieldLink RX8 42 "JourneyRoadsModel" "most" "[I", .arrayClass .long, .fieldLink RX8 45 "JourneyRoadsModel" "here" "[J", .fieldLink RX8 49 "JourneyRoadsModel" "next" "[J", .fieldLink RX8 52 "JourneyRoadsModel" "ways" "[J"] : List Cond), w ∈ wsX8_init := fun w h => by
  unfold wsX8_init
  exact List.mem_cons_of_mem _ (List.mem_append_left _ h)
theorem in_wsX8_init_1 : ∀ w ∈ wsX80, w ∈ wsX8_init := fun w h => by
  unfold wsX8_init
  exact List.mem_cons_of_mem _ (List.mem_append_right _ h)
theorem in_wsX8_init_c : ∀ w ∈ [(.code yX8_init cX8_init 1 none : Cond)], w ∈ wsX8_init := fun w h => by
  rw [List.mem_singleton.mp h]; unfold wsX8_init
  exact List.mem_cons_self
theorem in_wsX8_fault_0 : ∀ w ∈ ([cw_660] : List Cond), w ∈ wsX8_fault := fun w h => by
  unfold wsX8_fault
  exact List.mem_cons_of_mem _ (List.mem_append_left _ h)
theorem in_wsX8_fault_1 : ∀ w ∈ wsX80, w ∈ wsX8_fault := fun w h => by
  unfold wsX8_fault
  exact List.mem_cons_of_mem _ (List.mem_append_right _ h)
theorem in_wsX8_fault_c : ∀ w ∈ [(.code yX8_fault cX8_fault 1 (some .int) : Cond)], w ∈ wsX8_fault := fun w h => by
  rw [List.mem_singleton.mp h]; unfold wsX8_fault
  exact List.mem_cons_self
theorem in_wsX8_told_0 : ∀ w ∈ ([cw_585, cw_591, cw_661, cw_662, cw_663, cw_664, cw_590] : List Cond), w ∈ wsX8_told := fun w h => by
  unfold wsX8_told
  exact List.mem_cons_of_mem _ (List.mem_append_left _ h)
theorem in_wsX8_told_1 : ∀ w ∈ wsX80, w ∈ wsX8_told := fun w h => by
  unfold wsX8_told
  exact List.mem_cons_of_mem _ (List.mem_append_right _ h)
theorem in_wsX8_told_c : ∀ w ∈ [(.code yX8_told cX8_told 2 (some .int) : Cond)], w ∈ wsX8_told := fun w h => by
  rw [List.mem_singleton.mp h]; unfold wsX8_told
  exact List.mem_cons_self
theorem in_wsX8_undo_0 : ∀ w ∈ ([cw_664, cw_735, cw_661, cw_682] : List Cond), w ∈ wsX8_undo := fun w h => by
  unfold wsX8_undo
  exact List.mem_cons_of_mem _ (List.mem_append_left _ h)
theorem in_wsX8_undo_1 : ∀ w ∈ wsX80, w ∈ wsX8_undo := fun w h => by
  unfold wsX8_undo
  exact List.mem_cons_of_mem _ (List.mem_append_right _ h)
theorem in_wsX8_undo_c : ∀ w ∈ [(.code yX8_undo cX8_undo 2 (some .int) : Cond)], w ∈ wsX8_undo := fun w h => by
  rw [List.mem_singleton.mp h]; unfold wsX8_undo
  exact List.mem_cons_self
theorem in_wsX8_tear_0 : ∀ w ∈ ([cw_662, cw_663] : List Cond), w ∈ wsX8_tear := fun w h => by
  unfold wsX8_tear
  exact List.mem_cons_of_mem _ (List.mem_append_left _ h)
theorem in_wsX8_tear_1 : ∀ w ∈ wsX80, w ∈ wsX8_tear := fun w h => by
  unfold wsX8_tear
  exact List.mem_cons_of_mem _ (List.mem_append_right _ h)
theorem in_wsX8_tear_c : ∀ w ∈ [(.code yX8_tear cX8_tear 2 (some .int) : Cond)], w ∈ wsX8_tear := fun w h => by
  rw [List.mem_singleton.mp h]; unfold wsX8_tear
  exact List.mem_cons_self
theorem in_wsX8_judge_0 : ∀ w ∈ ([cw_663, cw_835, cw_661] : List Cond), w ∈ wsX8_judge := fun w h => by
  unfold wsX8_judge
  exact List.mem_cons_of_mem _ (List.mem_append_left _ h)
theorem in_wsX8_judge_1 : ∀ w ∈ wsX80, w ∈ wsX8_judge := fun w h => by
  unfold wsX8_judge
  exact List.mem_cons_of_mem _ (List.mem_append_right _ h)
theorem in_wsX8_judge_c : ∀ w ∈ [(.code yX8_judge cX8_judge 3 (some .int) : Cond)], w ∈ wsX8_judge := fun w h => by
  rw [List.mem_singleton.mp h]; unfold wsX8_judge
  exact List.mem_cons_self
theorem in_wsX8_seed_0 : ∀ w ∈ ([cw_590, cw_740] : List Cond), w ∈ wsX8_seed := fun w h => by
  unfold wsX8_seed
  exact List.mem_cons_of_mem _ (List.mem_append_left _ h)
theorem in_wsX8_seed_1 : ∀ w ∈ wsX80, w ∈ wsX8_seed := fun w h => by
  unfold wsX8_seed
  exact List.mem_cons_of_mem _ (List.mem_append_right _ h)
theorem in_wsX8_seed_c : ∀ w ∈ [(.code yX8_seed cX8_seed 3 (some .int) : Cond)], w ∈ wsX8_seed := fun w h => by
  rw [List.mem_singleton.mp h]; unfold wsX8_seed
  exact List.mem_cons_self
theorem in_wsJ9_max_7cf53_c : ∀ w ∈ [(.code yJ9_max_7cf53 cJ9_max_7cf53 2 (some .int) : Cond)], w ∈ wsJ9_max_7cf53 := fun w h => by
  rw [List.mem_singleton.mp h]; unfold wsJ9_max_7cf53
  exact List.mem_cons_self
