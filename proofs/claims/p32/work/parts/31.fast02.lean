set_option maxRecDepth 20000 in
theorem mm_wsX8_reach_r1 : ∀ w ∈ wsX8_reach_r1, w ∈ wsL_law := by
  unfold wsX8_reach_r1
  exact (am_cons (am_at in_wsL_law_r14 2 rfl) (am_cons (am_at in_wsL_law_r17 6 rfl) (am_cons (am_at in_wsL_law_r5 2 rfl) (am_cons (am_at in_wsL_law_r5 0 rfl) (am_cons (am_at in_wsL_law_r14 3 rfl) (am_cons (am_at in_wsL_law_r14 4 rfl) (am_cons (am_at in_wsL_law_r14 5 rfl) (am_cons (am_at in_wsL_law_r1 5 rfl) (am_cons (am_at in_wsL_law_r14 6 rfl) (am_cons (am_at in_wsL_law_r6 4 rfl) (am_cons (am_at in_wsL_law_r6 5 rfl) (am_cons (am_at in_wsL_law_r6 6 rfl) (am_cons (am_at in_wsL_law_r17 7 rfl) (am_cons (am_at in_wsL_law_r17 8 rfl) (am_cons (am_at in_wsL_law_r17 9 rfl) (am_cons (am_at in_wsL_law_r17 10 rfl) (am_cons (am_at in_wsL_law_r19 0 rfl) (am_cons (am_at in_wsL_law_r19 1 rfl) (am_cons (am_at in_wsL_law_r19 2 rfl) (am_cons (am_at in_wsL_law_r19 3 rfl) (am_cons (am_at in_wsL_law_r14 7 rfl) (am_cons (am_at in_wsL_law_r14 8 rfl) (am_cons (am_at in_wsL_law_r14 9 rfl) (am_cons (am_at in_wsL_law_r14 10 rfl) am_nil))))))))))))))))))))))))
set_option maxRecDepth 20000 in
theorem mm_wsX8_reach_r2 : ∀ w ∈ wsX8_reach_r2, w ∈ wsL_law := by
  unfold wsX8_reach_r2
  exact (am_cons (am_at in_wsL_law_r14 11 rfl) (am_cons (am_at in_wsL_law_r14 12 rfl) (am_cons (am_at in_wsL_law_r14 13 rfl) (am_cons (am_at in_wsL_law_r14 14 rfl) am_nil))))
set_option maxRecDepth 20000 in
theorem mm_wsX8_reach : ∀ w ∈ wsX8_reach, w ∈ wsL_law := by
  unfold wsX8_reach
  exact am_cons (am_at in_wsL_law_r23 0 rfl) (am_app (am_app mm_wsX8_reach_r1 mm_wsX8_reach_r2) in_wsX80)
set_option maxRecDepth 20000 in
theorem ggL_law_X8_reach : GoodIn wsL_law wsX8_reach := goodIn_m mm_wsX8_reach (by decide +kernel)
theorem gL_law_X8_reach : GoodIn wsL_law (wsV RL 72 RX8 yX8_reach wsX8_reach) := goodIn_app (goodIn_m (am_cons (am_at in_wsL_law_r22 21 rfl) (am_cons (am_at in_wsL_law_r22 22 rfl) (am_cons (am_at in_wsL_law_r22 23 rfl) (am_cons (am_at in_wsL_law_r1 5 rfl) am_nil)))) (by decide +kernel)) ggL_law_X8_reach
set_option maxRecDepth 20000 in
theorem mm_wsX7_best_r1 : ∀ w ∈ wsX7_best_r1, w ∈ wsL_law := by
  unfold wsX7_best_r1
  exact (am_cons (am_at in_wsL_law_r5 17 rfl) (am_cons (am_at in_wsL_law_r15 13 rfl) (am_cons (am_at in_wsL_law_r2 22 rfl) (am_cons (am_at in_wsL_law_r2 18 rfl) (am_cons (am_at in_wsL_law_r1 19 rfl) (am_cons (am_at in_wsL_law_r12 23 rfl) (am_cons (am_at in_wsL_law_r2 3 rfl) (am_cons (am_at in_wsL_law_r12 18 rfl) (am_cons (am_at in_wsL_law_r12 19 rfl) (am_cons (am_at in_wsL_law_r12 20 rfl) (am_cons (am_at in_wsL_law_r15 14 rfl) (am_cons (am_at in_wsL_law_r15 15 rfl) (am_cons (am_at in_wsL_law_r15 16 rfl) (am_cons (am_at in_wsL_law_r1 2 rfl) (am_cons (am_at in_wsL_law_r15 17 rfl) (am_cons (am_at in_wsL_law_r6 15 rfl) (am_cons (am_at in_wsL_law_r13 0 rfl) (am_cons (am_at in_wsL_law_r22 13 rfl) (am_cons (am_at in_wsL_law_r22 14 rfl) (am_cons (am_at in_wsL_law_r22 15 rfl) (am_cons (am_at in_wsL_law_r2 21 rfl) (am_cons (am_at in_wsL_law_r22 16 rfl) (am_cons (am_at in_wsL_law_r7 5 rfl) (am_cons (am_at in_wsL_law_r22 17 rfl) am_nil))))))))))))))))))))))))
set_option maxRecDepth 20000 in
theorem mm_wsX7_best_r2 : ∀ w ∈ wsX7_best_r2, w ∈ wsL_law := by
  unfold wsX7_best_r2
  exact (am_cons (am_at in_wsL_law_r18 12 rfl) (am_cons (am_at in_wsL_law_r18 13 rfl) (am_cons (am_at in_wsL_law_r18 14 rfl) (am_cons (am_at in_wsL_law_r7 7 rfl) (am_cons (am_at in_wsL_law_r18 15 rfl) (am_cons (am_at in_wsL_law_r9 9 rfl) (am_cons (am_at in_wsL_law_r9 10 rfl) (am_cons (am_at in_wsL_law_r9 11 rfl) (am_cons (am_at in_wsL_law_r7 6 rfl) (am_cons (am_at in_wsL_law_r4 17 rfl) (am_cons (am_at in_wsL_law_r4 18 rfl) (am_cons (am_at in_wsL_law_r23 5 rfl) (am_cons (am_at in_wsL_law_r23 6 rfl) (am_cons (am_at in_wsL_law_r23 7 rfl) (am_cons (am_at in_wsL_law_r2 2 rfl) (am_cons (am_at in_wsL_law_r23 8 rfl) (am_cons (am_at in_wsL_law_r3 18 rfl) (am_cons (am_at in_wsL_law_r23 9 rfl) (am_cons (am_at in_wsL_law_r23 10 rfl) (am_cons (am_at in_wsL_law_r23 11 rfl) (am_cons (am_at in_wsL_law_r23 12 rfl) (am_cons (am_at in_wsL_law_r23 13 rfl) (am_cons (am_at in_wsL_law_r23 14 rfl) (am_cons (am_at in_wsL_law_r23 15 rfl) am_nil))))))))))))))))))))))))
set_option maxRecDepth 20000 in
theorem mm_wsX7_best_r3 : ∀ w ∈ wsX7_best_r3, w ∈ wsL_law := by
  unfold wsX7_best_r3
  exact (am_cons (am_at in_wsL_law_r23 16 rfl) (am_cons (am_at in_wsL_law_r23 17 rfl) (am_cons (am_at in_wsL_law_r23 18 rfl) (am_cons (am_at in_wsL_law_r23 19 rfl) (am_cons (am_at in_wsL_law_r23 20 rfl) (am_cons (am_at in_wsL_law_r23 21 rfl) (am_cons (am_at in_wsL_law_r23 22 rfl) (am_cons (am_at in_wsL_law_r23 23 rfl) (am_cons (am_at in_wsL_law_r16 17 rfl) (am_cons (am_at in_wsL_law_r16 18 rfl) (am_cons (am_at in_wsL_law_r16 19 rfl) (am_cons (am_at in_wsL_law_r4 16 rfl) (am_cons (am_at in_wsL_law_r16 20 rfl) (am_cons (am_at in_wsL_law_r16 21 rfl) (am_cons (am_at in_wsL_law_r16 22 rfl) (am_cons (am_at in_wsL_law_r16 23 rfl) (am_cons (am_at in_wsL_law_r4 15 rfl) (am_cons (am_at in_wsL_law_r7 4 rfl) (am_cons (am_at in_wsL_law_r17 0 rfl) (am_cons (am_at in_wsL_law_r13 14 rfl) (am_cons (am_at in_wsL_law_r13 15 rfl) (am_cons (am_at in_wsL_law_r13 16 rfl) (am_cons (am_at in_wsL_law_r24 0 rfl) (am_cons (am_at in_wsL_law_r24 1 rfl) am_nil))))))))))))))))))))))))
set_option maxRecDepth 20000 in
theorem mm_wsX7_best_r4 : ∀ w ∈ wsX7_best_r4, w ∈ wsL_law := by
  unfold wsX7_best_r4
  exact (am_cons (am_at in_wsL_law_r24 2 rfl) (am_cons (am_at in_wsL_law_r24 3 rfl) (am_cons (am_at in_wsL_law_r24 4 rfl) (am_cons (am_at in_wsL_law_r24 5 rfl) (am_cons (am_at in_wsL_law_r24 6 rfl) (am_cons (am_at in_wsL_law_r24 7 rfl) (am_cons (am_at in_wsL_law_r24 8 rfl) (am_cons (am_at in_wsL_law_r24 9 rfl) (am_cons (am_at in_wsL_law_r24 10 rfl) (am_cons (am_at in_wsL_law_r24 11 rfl) (am_cons (am_at in_wsL_law_r22 19 rfl) (am_cons (am_at in_wsL_law_r22 20 rfl) (am_cons (am_at in_wsL_law_r24 12 rfl) (am_cons (am_at in_wsL_law_r24 13 rfl) (am_cons (am_at in_wsL_law_r24 14 rfl) (am_cons (am_at in_wsL_law_r24 15 rfl) am_nil))))))))))))))))
set_option maxRecDepth 20000 in
theorem mm_wsX7_best : ∀ w ∈ wsX7_best, w ∈ wsL_law := by
  unfold wsX7_best
  exact am_cons (am_at in_wsL_law_r23 4 rfl) (am_app (am_app (am_app (am_app (am_app mm_wsX7_best_r1 (am_app mm_wsX7_best_r2 (am_app mm_wsX7_best_r3 mm_wsX7_best_r4))) in_wsX70) in_wsX10) in_wsX00) in_wsX30)
set_option maxRecDepth 20000 in
theorem ggL_law_X7_best : GoodIn wsL_law wsX7_best := goodIn_m mm_wsX7_best (by decide +kernel)
theorem gL_law_X7_best : GoodIn wsL_law (wsV RL 73 RX7 yX7_best wsX7_best) := goodIn_app (goodIn_m (am_cons (am_at in_wsL_law_r23 1 rfl) (am_cons (am_at in_wsL_law_r23 2 rfl) (am_cons (am_at in_wsL_law_r23 3 rfl) (am_cons (am_at in_wsL_law_r1 2 rfl) am_nil)))) (by decide +kernel)) ggL_law_X7_best
set_option maxRecDepth 20000 in
theorem mm_wsX8_best_r1 : ∀ w ∈ wsX8_best_r1, w ∈ wsL_law := by
  unfold wsX8_best_r1
  exact (am_cons (am_at in_wsL_law_r6 1 rfl) (am_cons (am_at in_wsL_law_r17 6 rfl) (am_cons (am_at in_wsL_law_r5 2 rfl) (am_cons (am_at in_wsL_law_r5 0 rfl) (am_cons (am_at in_wsL_law_r6 4 rfl) (am_cons (am_at in_wsL_law_r6 5 rfl) (am_cons (am_at in_wsL_law_r1 5 rfl) (am_cons (am_at in_wsL_law_r6 6 rfl) (am_cons (am_at in_wsL_law_r17 7 rfl) (am_cons (am_at in_wsL_law_r17 8 rfl) (am_cons (am_at in_wsL_law_r17 9 rfl) (am_cons (am_at in_wsL_law_r17 10 rfl) (am_cons (am_at in_wsL_law_r24 20 rfl) (am_cons (am_at in_wsL_law_r24 21 rfl) (am_cons (am_at in_wsL_law_r24 22 rfl) (am_cons (am_at in_wsL_law_r24 23 rfl) (am_cons (am_at in_wsL_law_r5 9 rfl) (am_cons (am_at in_wsL_law_r19 0 rfl) (am_cons (am_at in_wsL_law_r19 1 rfl) (am_cons (am_at in_wsL_law_r19 2 rfl) (am_cons (am_at in_wsL_law_r19 3 rfl) (am_cons (am_at in_wsL_law_r14 7 rfl) (am_cons (am_at in_wsL_law_r14 8 rfl) (am_cons (am_at in_wsL_law_r14 9 rfl) am_nil))))))))))))))))))))))))
set_option maxRecDepth 20000 in
theorem mm_wsX8_best_r2 : ∀ w ∈ wsX8_best_r2, w ∈ wsL_law := by
  unfold wsX8_best_r2
  exact (am_cons (am_at in_wsL_law_r14 10 rfl) (am_cons (am_at in_wsL_law_r14 11 rfl) (am_cons (am_at in_wsL_law_r14 12 rfl) (am_cons (am_at in_wsL_law_r14 13 rfl) (am_cons (am_at in_wsL_law_r14 14 rfl) (am_cons (am_at in_wsL_law_r25 0 rfl) (am_cons (am_at in_wsL_law_r25 1 rfl) (am_cons (am_at in_wsL_law_r25 2 rfl) (am_cons (am_at in_wsL_law_r25 3 rfl) (am_cons (am_at in_wsL_law_r25 4 rfl) (am_cons (am_at in_wsL_law_r25 5 rfl) (am_cons (am_at in_wsL_law_r25 6 rfl) (am_cons (am_at in_wsL_law_r25 7 rfl) (am_cons (am_at in_wsL_law_r17 23 rfl) (am_cons (am_at in_wsL_law_r18 0 rfl) (am_cons (am_at in_wsL_law_r18 1 rfl) (am_cons (am_at in_wsL_law_r18 2 rfl) am_nil)))))))))))))))))
set_option maxRecDepth 20000 in
theorem mm_wsX8_best : ∀ w ∈ wsX8_best, w ∈ wsL_law := by
  unfold wsX8_best
  exact am_cons (am_at in_wsL_law_r24 19 rfl) (am_app (am_app mm_wsX8_best_r1 mm_wsX8_best_r2) in_wsX80)
set_option maxRecDepth 20000 in
theorem ggL_law_X8_best : GoodIn wsL_law wsX8_best := goodIn_m mm_wsX8_best (by decide +kernel)
theorem gL_law_X8_best : GoodIn wsL_law (wsV RL 76 RX8 yX8_best wsX8_best) := goodIn_app (goodIn_m (am_cons (am_at in_wsL_law_r24 16 rfl) (am_cons (am_at in_wsL_law_r24 17 rfl) (am_cons (am_at in_wsL_law_r24 18 rfl) (am_cons (am_at in_wsL_law_r1 5 rfl) am_nil)))) (by decide +kernel)) ggL_law_X8_best
set_option maxRecDepth 20000 in
theorem mm_wsX7_seals_r1 : ∀ w ∈ wsX7_seals_r1, w ∈ wsL_law := by
  unfold wsX7_seals_r1
  exact (am_cons (am_at in_wsL_law_r2 22 rfl) (am_cons (am_at in_wsL_law_r13 9 rfl) (am_cons (am_at in_wsL_law_r15 13 rfl) (am_cons (am_at in_wsL_law_r2 18 rfl) (am_cons (am_at in_wsL_law_r1 19 rfl) (am_cons (am_at in_wsL_law_r12 23 rfl) (am_cons (am_at in_wsL_law_r2 7 rfl) (am_cons (am_at in_wsL_law_r25 12 rfl) (am_cons (am_at in_wsL_law_r25 13 rfl) (am_cons (am_at in_wsL_law_r25 14 rfl) (am_cons (am_at in_wsL_law_r2 21 rfl) (am_cons (am_at in_wsL_law_r25 15 rfl) (am_cons (am_at in_wsL_law_r7 5 rfl) (am_cons (am_at in_wsL_law_r15 14 rfl) (am_cons (am_at in_wsL_law_r15 15 rfl) (am_cons (am_at in_wsL_law_r15 16 rfl) (am_cons (am_at in_wsL_law_r1 2 rfl) (am_cons (am_at in_wsL_law_r15 17 rfl) (am_cons (am_at in_wsL_law_r6 15 rfl) (am_cons (am_at in_wsL_law_r13 0 rfl) (am_cons (am_at in_wsL_law_r22 13 rfl) (am_cons (am_at in_wsL_law_r22 14 rfl) (am_cons (am_at in_wsL_law_r22 15 rfl) (am_cons (am_at in_wsL_law_r22 16 rfl) am_nil))))))))))))))))))))))))
set_option maxRecDepth 20000 in
theorem mm_wsX7_seals_r2 : ∀ w ∈ wsX7_seals_r2, w ∈ wsL_law := by
  unfold wsX7_seals_r2
  exact (am_cons (am_at in_wsL_law_r22 17 rfl) (am_cons (am_at in_wsL_law_r18 12 rfl) (am_cons (am_at in_wsL_law_r18 13 rfl) (am_cons (am_at in_wsL_law_r18 14 rfl) (am_cons (am_at in_wsL_law_r7 7 rfl) (am_cons (am_at in_wsL_law_r18 15 rfl) (am_cons (am_at in_wsL_law_r9 9 rfl) (am_cons (am_at in_wsL_law_r9 10 rfl) (am_cons (am_at in_wsL_law_r9 11 rfl) (am_cons (am_at in_wsL_law_r7 6 rfl) (am_cons (am_at in_wsL_law_r4 17 rfl) (am_cons (am_at in_wsL_law_r4 18 rfl) (am_cons (am_at in_wsL_law_r25 16 rfl) (am_cons (am_at in_wsL_law_r25 17 rfl) (am_cons (am_at in_wsL_law_r25 18 rfl) (am_cons (am_at in_wsL_law_r2 6 rfl) (am_cons (am_at in_wsL_law_r25 19 rfl) (am_cons (am_at in_wsL_law_r4 1 rfl) (am_cons (am_at in_wsL_law_r25 20 rfl) (am_cons (am_at in_wsL_law_r25 21 rfl) (am_cons (am_at in_wsL_law_r25 22 rfl) (am_cons (am_at in_wsL_law_r25 23 rfl) (am_cons (am_at in_wsL_law_r26 0 rfl) (am_cons (am_at in_wsL_law_r26 1 rfl) am_nil))))))))))))))))))))))))
set_option maxRecDepth 20000 in
theorem mm_wsX7_seals_r3 : ∀ w ∈ wsX7_seals_r3, w ∈ wsL_law := by
  unfold wsX7_seals_r3
  exact (am_cons (am_at in_wsL_law_r26 2 rfl) (am_cons (am_at in_wsL_law_r26 3 rfl) (am_cons (am_at in_wsL_law_r26 4 rfl) (am_cons (am_at in_wsL_law_r26 5 rfl) (am_cons (am_at in_wsL_law_r26 6 rfl) (am_cons (am_at in_wsL_law_r26 7 rfl) (am_cons (am_at in_wsL_law_r26 8 rfl) (am_cons (am_at in_wsL_law_r26 9 rfl) (am_cons (am_at in_wsL_law_r26 10 rfl) (am_cons (am_at in_wsL_law_r26 11 rfl) (am_cons (am_at in_wsL_law_r26 12 rfl) (am_cons (am_at in_wsL_law_r26 13 rfl) (am_cons (am_at in_wsL_law_r26 14 rfl) (am_cons (am_at in_wsL_law_r26 15 rfl) (am_cons (am_at in_wsL_law_r4 2 rfl) (am_cons (am_at in_wsL_law_r26 16 rfl) (am_cons (am_at in_wsL_law_r16 21 rfl) (am_cons (am_at in_wsL_law_r16 22 rfl) (am_cons (am_at in_wsL_law_r16 23 rfl) (am_cons (am_at in_wsL_law_r4 15 rfl) (am_cons (am_at in_wsL_law_r7 4 rfl) (am_cons (am_at in_wsL_law_r17 0 rfl) (am_cons (am_at in_wsL_law_r13 14 rfl) (am_cons (am_at in_wsL_law_r13 15 rfl) am_nil))))))))))))))))))))))))
set_option maxRecDepth 20000 in
theorem mm_wsX7_seals_r4 : ∀ w ∈ wsX7_seals_r4, w ∈ wsL_law := by
  unfold wsX7_seals_r4
  exact (am_cons (am_at in_wsL_law_r13 16 rfl) (am_cons (am_at in_wsL_law_r26 17 rfl) (am_cons (am_at in_wsL_law_r26 18 rfl) (am_cons (am_at in_wsL_law_r26 19 rfl) (am_cons (am_at in_wsL_law_r26 20 rfl) (am_cons (am_at in_wsL_law_r26 21 rfl) (am_cons (am_at in_wsL_law_r26 22 rfl) (am_cons (am_at in_wsL_law_r26 23 rfl) (am_cons (am_at in_wsL_law_r27 0 rfl) (am_cons (am_at in_wsL_law_r27 1 rfl) (am_cons (am_at in_wsL_law_r27 2 rfl) (am_cons (am_at in_wsL_law_r27 3 rfl) (am_cons (am_at in_wsL_law_r27 4 rfl) (am_cons (am_at in_wsL_law_r27 5 rfl) am_nil))))))))))))))
set_option maxRecDepth 20000 in
theorem mm_wsX7_seals : ∀ w ∈ wsX7_seals, w ∈ wsL_law := by
  unfold wsX7_seals
  exact am_cons (am_at in_wsL_law_r25 11 rfl) (am_app (am_app (am_app (am_app (am_app mm_wsX7_seals_r1 (am_app mm_wsX7_seals_r2 (am_app mm_wsX7_seals_r3 mm_wsX7_seals_r4))) in_wsX70) in_wsX10) in_wsX00) in_wsX40)
set_option maxRecDepth 20000 in
theorem ggL_law_X7_seals : GoodIn wsL_law wsX7_seals := goodIn_m mm_wsX7_seals (by decide +kernel)
theorem gL_law_X7_seals : GoodIn wsL_law (wsV RL 77 RX7 yX7_seals wsX7_seals) := goodIn_app (goodIn_m (am_cons (am_at in_wsL_law_r25 8 rfl) (am_cons (am_at in_wsL_law_r25 9 rfl) (am_cons (am_at in_wsL_law_r25 10 rfl) (am_cons (am_at in_wsL_law_r1 2 rfl) am_nil)))) (by decide +kernel)) ggL_law_X7_seals
set_option maxRecDepth 20000 in
theorem mm_wsX8_seals_r1 : ∀ w ∈ wsX8_seals_r1, w ∈ wsL_law := by
  unfold wsX8_seals_r1
  exact (am_cons (am_at in_wsL_law_r5 0 rfl) (am_cons (am_at in_wsL_law_r14 2 rfl) (am_cons (am_at in_wsL_law_r17 6 rfl) (am_cons (am_at in_wsL_law_r5 10 rfl) (am_cons (am_at in_wsL_law_r5 2 rfl) (am_cons (am_at in_wsL_law_r6 4 rfl) (am_cons (am_at in_wsL_law_r6 5 rfl) (am_cons (am_at in_wsL_law_r1 5 rfl) (am_cons (am_at in_wsL_law_r6 6 rfl) (am_cons (am_at in_wsL_law_r17 7 rfl) (am_cons (am_at in_wsL_law_r17 8 rfl) (am_cons (am_at in_wsL_law_r17 9 rfl) (am_cons (am_at in_wsL_law_r17 10 rfl) (am_cons (am_at in_wsL_law_r27 10 rfl) (am_cons (am_at in_wsL_law_r27 11 rfl) (am_cons (am_at in_wsL_law_r27 12 rfl) (am_cons (am_at in_wsL_law_r27 13 rfl) (am_cons (am_at in_wsL_law_r27 14 rfl) (am_cons (am_at in_wsL_law_r27 15 rfl) (am_cons (am_at in_wsL_law_r27 16 rfl) (am_cons (am_at in_wsL_law_r5 11 rfl) (am_cons (am_at in_wsL_law_r27 17 rfl) (am_cons (am_at in_wsL_law_r17 23 rfl) (am_cons (am_at in_wsL_law_r18 0 rfl) am_nil))))))))))))))))))))))))
set_option maxRecDepth 20000 in
theorem mm_wsX8_seals_r2 : ∀ w ∈ wsX8_seals_r2, w ∈ wsL_law := by
  unfold wsX8_seals_r2
  exact (am_cons (am_at in_wsL_law_r18 1 rfl) (am_cons (am_at in_wsL_law_r18 2 rfl) (am_cons (am_at in_wsL_law_r27 18 rfl) (am_cons (am_at in_wsL_law_r27 19 rfl) (am_cons (am_at in_wsL_law_r27 20 rfl) (am_cons (am_at in_wsL_law_r27 21 rfl) (am_cons (am_at in_wsL_law_r19 0 rfl) (am_cons (am_at in_wsL_law_r19 1 rfl) (am_cons (am_at in_wsL_law_r19 2 rfl) (am_cons (am_at in_wsL_law_r19 3 rfl) (am_cons (am_at in_wsL_law_r14 7 rfl) (am_cons (am_at in_wsL_law_r14 8 rfl) (am_cons (am_at in_wsL_law_r14 9 rfl) (am_cons (am_at in_wsL_law_r14 10 rfl) (am_cons (am_at in_wsL_law_r14 11 rfl) (am_cons (am_at in_wsL_law_r14 12 rfl) (am_cons (am_at in_wsL_law_r14 13 rfl) (am_cons (am_at in_wsL_law_r14 14 rfl) (am_cons (am_at in_wsL_law_r27 22 rfl) (am_cons (am_at in_wsL_law_r27 23 rfl) (am_cons (am_at in_wsL_law_r28 0 rfl) (am_cons (am_at in_wsL_law_r28 1 rfl) (am_cons (am_at in_wsL_law_r28 2 rfl) (am_cons (am_at in_wsL_law_r28 3 rfl) am_nil))))))))))))))))))))))))
set_option maxRecDepth 20000 in
theorem mm_wsX8_seals : ∀ w ∈ wsX8_seals, w ∈ wsL_law := by
  unfold wsX8_seals
  exact am_cons (am_at in_wsL_law_r27 9 rfl) (am_app (am_app mm_wsX8_seals_r1 mm_wsX8_seals_r2) in_wsX80)
set_option maxRecDepth 20000 in
theorem ggL_law_X8_seals : GoodIn wsL_law wsX8_seals := goodIn_m mm_wsX8_seals (by decide +kernel)
theorem gL_law_X8_seals : GoodIn wsL_law (wsV RL 80 RX8 yX8_seals wsX8_seals) := goodIn_app (goodIn_m (am_cons (am_at in_wsL_law_r27 6 rfl) (am_cons (am_at in_wsL_law_r27 7 rfl) (am_cons (am_at in_wsL_law_r27 8 rfl) (am_cons (am_at in_wsL_law_r1 5 rfl) am_nil)))) (by decide +kernel)) ggL_law_X8_seals
set_option maxRecDepth 20000 in
theorem mm_wsX7_two_r1 : ∀ w ∈ wsX7_two_r1, w ∈ wsL_law := by
  unfold wsX7_two_r1
  exact (am_cons (am_at in_wsL_law_r2 22 rfl) (am_cons (am_at in_wsL_law_r13 9 rfl) (am_cons (am_at in_wsL_law_r1 19 rfl) (am_cons (am_at in_wsL_law_r13 0 rfl) (am_cons (am_at in_wsL_law_r15 13 rfl) (am_cons (am_at in_wsL_law_r2 18 rfl) (am_cons (am_at in_wsL_law_r12 23 rfl) (am_cons (am_at in_wsL_law_r2 3 rfl) (am_cons (am_at in_wsL_law_r13 13 rfl) (am_cons (am_at in_wsL_law_r13 14 rfl) (am_cons (am_at in_wsL_law_r13 15 rfl) (am_cons (am_at in_wsL_law_r2 21 rfl) (am_cons (am_at in_wsL_law_r13 16 rfl) (am_cons (am_at in_wsL_law_r7 5 rfl) (am_cons (am_at in_wsL_law_r22 13 rfl) (am_cons (am_at in_wsL_law_r22 14 rfl) (am_cons (am_at in_wsL_law_r22 15 rfl) (am_cons (am_at in_wsL_law_r22 16 rfl) (am_cons (am_at in_wsL_law_r22 17 rfl) (am_cons (am_at in_wsL_law_r18 12 rfl) (am_cons (am_at in_wsL_law_r18 13 rfl) (am_cons (am_at in_wsL_law_r18 14 rfl) (am_cons (am_at in_wsL_law_r7 7 rfl) (am_cons (am_at in_wsL_law_r18 15 rfl) am_nil))))))))))))))))))))))))
set_option maxRecDepth 20000 in
theorem mm_wsX7_two_r2 : ∀ w ∈ wsX7_two_r2, w ∈ wsL_law := by
  unfold wsX7_two_r2
  exact (am_cons (am_at in_wsL_law_r9 9 rfl) (am_cons (am_at in_wsL_law_r9 10 rfl) (am_cons (am_at in_wsL_law_r9 11 rfl) (am_cons (am_at in_wsL_law_r7 6 rfl) (am_cons (am_at in_wsL_law_r4 17 rfl) (am_cons (am_at in_wsL_law_r4 18 rfl) (am_cons (am_at in_wsL_law_r28 8 rfl) (am_cons (am_at in_wsL_law_r28 9 rfl) (am_cons (am_at in_wsL_law_r28 10 rfl) (am_cons (am_at in_wsL_law_r2 2 rfl) (am_cons (am_at in_wsL_law_r28 11 rfl) (am_cons (am_at in_wsL_law_r3 19 rfl) (am_cons (am_at in_wsL_law_r24 6 rfl) (am_cons (am_at in_wsL_law_r24 5 rfl) (am_cons (am_at in_wsL_law_r3 20 rfl) (am_cons (am_at in_wsL_law_r23 18 rfl) (am_cons (am_at in_wsL_law_r28 12 rfl) (am_cons (am_at in_wsL_law_r28 13 rfl) (am_cons (am_at in_wsL_law_r28 14 rfl) (am_cons (am_at in_wsL_law_r28 15 rfl) (am_cons (am_at in_wsL_law_r28 16 rfl) (am_cons (am_at in_wsL_law_r28 17 rfl) (am_cons (am_at in_wsL_law_r22 19 rfl) (am_cons (am_at in_wsL_law_r1 2 rfl) am_nil))))))))))))))))))))))))
set_option maxRecDepth 20000 in
theorem mm_wsX7_two_r3 : ∀ w ∈ wsX7_two_r3, w ∈ wsL_law := by
  unfold wsX7_two_r3
  exact (am_cons (am_at in_wsL_law_r22 20 rfl) am_nil)
set_option maxRecDepth 20000 in
theorem mm_wsX7_two : ∀ w ∈ wsX7_two, w ∈ wsL_law := by
  unfold wsX7_two
  exact am_cons (am_at in_wsL_law_r28 7 rfl) (am_app (am_app (am_app (am_app (am_app mm_wsX7_two_r1 (am_app mm_wsX7_two_r2 mm_wsX7_two_r3)) in_wsX70) in_wsX10) in_wsX00) in_wsX30)
set_option maxRecDepth 20000 in
theorem ggL_law_X7_two : GoodIn wsL_law wsX7_two := goodIn_m mm_wsX7_two (by decide +kernel)
theorem gL_law_X7_two : GoodIn wsL_law (wsV RL 81 RX7 yX7_two wsX7_two) := goodIn_app (goodIn_m (am_cons (am_at in_wsL_law_r28 4 rfl) (am_cons (am_at in_wsL_law_r28 5 rfl) (am_cons (am_at in_wsL_law_r28 6 rfl) (am_cons (am_at in_wsL_law_r1 2 rfl) am_nil)))) (by decide +kernel)) ggL_law_X7_two
set_option maxRecDepth 20000 in
theorem mm_wsX8_two_r1 : ∀ w ∈ wsX8_two_r1, w ∈ wsL_law := by
  unfold wsX8_two_r1
  exact (am_cons (am_at in_wsL_law_r14 2 rfl) (am_cons (am_at in_wsL_law_r17 6 rfl) (am_cons (am_at in_wsL_law_r5 2 rfl) (am_cons (am_at in_wsL_law_r14 3 rfl) (am_cons (am_at in_wsL_law_r14 4 rfl) (am_cons (am_at in_wsL_law_r14 5 rfl) (am_cons (am_at in_wsL_law_r1 5 rfl) (am_cons (am_at in_wsL_law_r14 6 rfl) (am_cons (am_at in_wsL_law_r5 0 rfl) (am_cons (am_at in_wsL_law_r6 4 rfl) (am_cons (am_at in_wsL_law_r6 5 rfl) (am_cons (am_at in_wsL_law_r6 6 rfl) (am_cons (am_at in_wsL_law_r17 7 rfl) (am_cons (am_at in_wsL_law_r17 8 rfl) (am_cons (am_at in_wsL_law_r17 9 rfl) (am_cons (am_at in_wsL_law_r17 10 rfl) (am_cons (am_at in_wsL_law_r27 10 rfl) (am_cons (am_at in_wsL_law_r27 11 rfl) (am_cons (am_at in_wsL_law_r27 12 rfl) (am_cons (am_at in_wsL_law_r28 1 rfl) (am_cons (am_at in_wsL_law_r28 2 rfl) (am_cons (am_at in_wsL_law_r28 3 rfl) (am_cons (am_at in_wsL_law_r27 17 rfl) (am_cons (am_at in_wsL_law_r27 18 rfl) am_nil))))))))))))))))))))))))
set_option maxRecDepth 20000 in
theorem mm_wsX8_two_r2 : ∀ w ∈ wsX8_two_r2, w ∈ wsL_law := by
  unfold wsX8_two_r2
  exact (am_cons (am_at in_wsL_law_r27 19 rfl) (am_cons (am_at in_wsL_law_r27 20 rfl) (am_cons (am_at in_wsL_law_r27 21 rfl) (am_cons (am_at in_wsL_law_r19 0 rfl) (am_cons (am_at in_wsL_law_r19 1 rfl) (am_cons (am_at in_wsL_law_r19 2 rfl) (am_cons (am_at in_wsL_law_r19 3 rfl) (am_cons (am_at in_wsL_law_r14 7 rfl) (am_cons (am_at in_wsL_law_r14 8 rfl) (am_cons (am_at in_wsL_law_r14 9 rfl) (am_cons (am_at in_wsL_law_r14 10 rfl) (am_cons (am_at in_wsL_law_r14 11 rfl) (am_cons (am_at in_wsL_law_r14 12 rfl) (am_cons (am_at in_wsL_law_r14 13 rfl) (am_cons (am_at in_wsL_law_r14 14 rfl) (am_cons (am_at in_wsL_law_r27 22 rfl) (am_cons (am_at in_wsL_law_r27 23 rfl) (am_cons (am_at in_wsL_law_r28 0 rfl) am_nil))))))))))))))))))
set_option maxRecDepth 20000 in
theorem mm_wsX8_two : ∀ w ∈ wsX8_two, w ∈ wsL_law := by
  unfold wsX8_two
  exact am_cons (am_at in_wsL_law_r28 21 rfl) (am_app (am_app mm_wsX8_two_r1 mm_wsX8_two_r2) in_wsX80)
set_option maxRecDepth 20000 in
theorem ggL_law_X8_two : GoodIn wsL_law wsX8_two := goodIn_m mm_wsX8_two (by decide +kernel)
theorem gL_law_X8_two : GoodIn wsL_law (wsV RL 84 RX8 yX8_two wsX8_two) := goodIn_app (goodIn_m (am_cons (am_at in_wsL_law_r28 18 rfl) (am_cons (am_at in_wsL_law_r28 19 rfl) (am_cons (am_at in_wsL_law_r28 20 rfl) (am_cons (am_at in_wsL_law_r1 5 rfl) am_nil)))) (by decide +kernel)) ggL_law_X8_two
set_option maxRecDepth 20000 in
theorem mm_wsX7_idle : ∀ w ∈ wsX7_idle, w ∈ wsL_law := by
  unfold wsX7_idle
  exact am_cons (am_at in_wsL_law_r29 1 rfl) (am_app (am_app (am_cons (am_at in_wsL_law_r2 22 rfl) (am_cons (am_at in_wsL_law_r6 15 rfl) (am_cons (am_at in_wsL_law_r13 11 rfl) (am_cons (am_at in_wsL_law_r13 18 rfl) (am_cons (am_at in_wsL_law_r13 19 rfl) (am_cons (am_at in_wsL_law_r13 20 rfl) (am_cons (am_at in_wsL_law_r2 21 rfl) (am_cons (am_at in_wsL_law_r13 21 rfl) (am_cons (am_at in_wsL_law_r7 7 rfl) am_nil))))))))) in_wsX70) in_wsX00)
set_option maxRecDepth 20000 in
theorem ggL_law_X7_idle : GoodIn wsL_law wsX7_idle := goodIn_m mm_wsX7_idle (by decide +kernel)
theorem gL_law_X7_idle : GoodIn wsL_law (wsV RL 85 RX7 yX7_idle wsX7_idle) := goodIn_app (goodIn_m (am_cons (am_at in_wsL_law_r28 22 rfl) (am_cons (am_at in_wsL_law_r28 23 rfl) (am_cons (am_at in_wsL_law_r29 0 rfl) (am_cons (am_at in_wsL_law_r1 2 rfl) am_nil)))) (by decide +kernel)) ggL_law_X7_idle
set_option maxRecDepth 20000 in
theorem mm_wsX8_idle : ∀ w ∈ wsX8_idle, w ∈ wsL_law := by
  unfold wsX8_idle
  exact am_cons (am_at in_wsL_law_r29 5 rfl) (am_app (am_cons (am_at in_wsL_law_r5 0 rfl) (am_cons (am_at in_wsL_law_r14 11 rfl) (am_cons (am_at in_wsL_law_r14 12 rfl) (am_cons (am_at in_wsL_law_r14 13 rfl) (am_cons (am_at in_wsL_law_r1 5 rfl) (am_cons (am_at in_wsL_law_r14 14 rfl) am_nil)))))) in_wsX80)
set_option maxRecDepth 20000 in
theorem ggL_law_X8_idle : GoodIn wsL_law wsX8_idle := goodIn_m mm_wsX8_idle (by decide +kernel)
theorem gL_law_X8_idle : GoodIn wsL_law (wsV RL 88 RX8 yX8_idle wsX8_idle) := goodIn_app (goodIn_m (am_cons (am_at in_wsL_law_r29 2 rfl) (am_cons (am_at in_wsL_law_r29 3 rfl) (am_cons (am_at in_wsL_law_r29 4 rfl) (am_cons (am_at in_wsL_law_r1 5 rfl) am_nil)))) (by decide +kernel)) ggL_law_X8_idle
set_option maxRecDepth 20000 in
theorem mm_wsX7_stranded : ∀ w ∈ wsX7_stranded, w ∈ wsL_law := by
  unfold wsX7_stranded
  exact am_cons (am_at in_wsL_law_r29 9 rfl) (am_app (am_app (am_app (am_cons (am_at in_wsL_law_r2 22 rfl) (am_cons (am_at in_wsL_law_r2 18 rfl) (am_cons (am_at in_wsL_law_r1 19 rfl) (am_cons (am_at in_wsL_law_r12 23 rfl) (am_cons (am_at in_wsL_law_r6 15 rfl) (am_cons (am_at in_wsL_law_r22 13 rfl) (am_cons (am_at in_wsL_law_r22 14 rfl) (am_cons (am_at in_wsL_law_r22 15 rfl) (am_cons (am_at in_wsL_law_r2 21 rfl) (am_cons (am_at in_wsL_law_r22 16 rfl) (am_cons (am_at in_wsL_law_r7 5 rfl) (am_cons (am_at in_wsL_law_r22 17 rfl) (am_cons (am_at in_wsL_law_r18 12 rfl) (am_cons (am_at in_wsL_law_r18 13 rfl) (am_cons (am_at in_wsL_law_r18 14 rfl) (am_cons (am_at in_wsL_law_r7 7 rfl) (am_cons (am_at in_wsL_law_r18 15 rfl) (am_cons (am_at in_wsL_law_r9 9 rfl) (am_cons (am_at in_wsL_law_r9 10 rfl) (am_cons (am_at in_wsL_law_r9 11 rfl) (am_cons (am_at in_wsL_law_r7 6 rfl) (am_cons (am_at in_wsL_law_r4 17 rfl) (am_cons (am_at in_wsL_law_r4 18 rfl) am_nil))))))))))))))))))))))) in_wsX70) in_wsX10) in_wsX00)
set_option maxRecDepth 20000 in
theorem ggL_law_X7_stranded : GoodIn wsL_law wsX7_stranded := goodIn_m mm_wsX7_stranded (by decide +kernel)
theorem gL_law_X7_stranded : GoodIn wsL_law (wsV RL 89 RX7 yX7_stranded wsX7_stranded) := goodIn_app (goodIn_m (am_cons (am_at in_wsL_law_r29 6 rfl) (am_cons (am_at in_wsL_law_r29 7 rfl) (am_cons (am_at in_wsL_law_r29 8 rfl) (am_cons (am_at in_wsL_law_r1 2 rfl) am_nil)))) (by decide +kernel)) ggL_law_X7_stranded
set_option maxRecDepth 20000 in
theorem mm_wsX8_stranded : ∀ w ∈ wsX8_stranded, w ∈ wsL_law := by
  unfold wsX8_stranded
  exact am_cons (am_at in_wsL_law_r29 13 rfl) (am_app (am_cons (am_at in_wsL_law_r5 0 rfl) (am_cons (am_at in_wsL_law_r5 2 rfl) (am_cons (am_at in_wsL_law_r19 0 rfl) (am_cons (am_at in_wsL_law_r19 1 rfl) (am_cons (am_at in_wsL_law_r19 2 rfl) (am_cons (am_at in_wsL_law_r1 5 rfl) (am_cons (am_at in_wsL_law_r19 3 rfl) (am_cons (am_at in_wsL_law_r14 7 rfl) (am_cons (am_at in_wsL_law_r14 8 rfl) (am_cons (am_at in_wsL_law_r14 9 rfl) (am_cons (am_at in_wsL_law_r14 10 rfl) (am_cons (am_at in_wsL_law_r14 11 rfl) (am_cons (am_at in_wsL_law_r14 12 rfl) (am_cons (am_at in_wsL_law_r14 13 rfl) (am_cons (am_at in_wsL_law_r14 14 rfl) am_nil))))))))))))))) in_wsX80)
set_option maxRecDepth 20000 in
theorem ggL_law_X8_stranded : GoodIn wsL_law wsX8_stranded := goodIn_m mm_wsX8_stranded (by decide +kernel)
theorem gL_law_X8_stranded : GoodIn wsL_law (wsV RL 92 RX8 yX8_stranded wsX8_stranded) := goodIn_app (goodIn_m (am_cons (am_at in_wsL_law_r29 10 rfl) (am_cons (am_at in_wsL_law_r29 11 rfl) (am_cons (am_at in_wsL_law_r29 12 rfl) (am_cons (am_at in_wsL_law_r1 5 rfl) am_nil)))) (by decide +kernel)) ggL_law_X8_stranded
set_option maxRecDepth 20000 in
theorem mm_wsX7_snow : ∀ w ∈ wsX7_snow, w ∈ wsL_law := by
  unfold wsX7_snow
  exact am_cons (am_at in_wsL_law_r29 17 rfl) (am_cons (am_at in_wsL_law_r5 17 rfl) (am_cons (am_at in_wsL_law_r29 18 rfl) (am_cons (am_at in_wsL_law_r29 19 rfl) am_nil)))
set_option maxRecDepth 20000 in
theorem ggL_law_X7_snow : GoodIn wsL_law wsX7_snow := goodIn_m mm_wsX7_snow (by decide +kernel)
theorem gL_law_X7_snow : GoodIn wsL_law (wsV RL 93 RX7 yX7_snow wsX7_snow) := goodIn_app (goodIn_m (am_cons (am_at in_wsL_law_r29 14 rfl) (am_cons (am_at in_wsL_law_r29 15 rfl) (am_cons (am_at in_wsL_law_r29 16 rfl) (am_cons (am_at in_wsL_law_r1 2 rfl) am_nil)))) (by decide +kernel)) ggL_law_X7_snow
set_option maxRecDepth 20000 in
theorem mm_wsX8_snow : ∀ w ∈ wsX8_snow, w ∈ wsL_law := by
  unfold wsX8_snow
  exact am_cons (am_at in_wsL_law_r29 23 rfl) (am_cons (am_at in_wsL_law_r6 1 rfl) (am_cons (am_at in_wsL_law_r30 0 rfl) (am_cons (am_at in_wsL_law_r30 1 rfl) (am_cons (am_at in_wsL_law_r6 4 rfl) (am_cons (am_at in_wsL_law_r6 5 rfl) (am_cons (am_at in_wsL_law_r1 5 rfl) (am_cons (am_at in_wsL_law_r6 6 rfl) am_nil)))))))
set_option maxRecDepth 20000 in
theorem ggL_law_X8_snow : GoodIn wsL_law wsX8_snow := goodIn_m mm_wsX8_snow (by decide +kernel)
theorem gL_law_X8_snow : GoodIn wsL_law (wsV RL 96 RX8 yX8_snow wsX8_snow) := goodIn_app (goodIn_m (am_cons (am_at in_wsL_law_r29 20 rfl) (am_cons (am_at in_wsL_law_r29 21 rfl) (am_cons (am_at in_wsL_law_r29 22 rfl) (am_cons (am_at in_wsL_law_r1 5 rfl) am_nil)))) (by decide +kernel)) ggL_law_X8_snow
set_option maxRecDepth 20000 in
theorem mm_wsX7_seal : ∀ w ∈ wsX7_seal, w ∈ wsL_law := by
  unfold wsX7_seal
  exact am_cons (am_at in_wsL_law_r30 5 rfl) (am_app (am_app (am_app (am_cons (am_at in_wsL_law_r2 22 rfl) (am_cons (am_at in_wsL_law_r13 9 rfl) (am_cons (am_at in_wsL_law_r5 17 rfl) (am_cons (am_at in_wsL_law_r2 11 rfl) (am_cons (am_at in_wsL_law_r6 13 rfl) (am_cons (am_at in_wsL_law_r5 19 rfl) (am_cons (am_at in_wsL_law_r13 13 rfl) (am_cons (am_at in_wsL_law_r13 14 rfl) (am_cons (am_at in_wsL_law_r13 15 rfl) (am_cons (am_at in_wsL_law_r2 21 rfl) (am_cons (am_at in_wsL_law_r13 16 rfl) (am_cons (am_at in_wsL_law_r7 5 rfl) (am_cons (am_at in_wsL_law_r30 6 rfl) (am_cons (am_at in_wsL_law_r30 7 rfl) (am_cons (am_at in_wsL_law_r30 8 rfl) (am_cons (am_at in_wsL_law_r2 10 rfl) (am_cons (am_at in_wsL_law_r30 9 rfl) (am_cons (am_at in_wsL_law_r30 10 rfl) (am_cons (am_at in_wsL_law_r4 6 rfl) (am_cons (am_at in_wsL_law_r4 7 rfl) am_nil)))))))))))))))))))) in_wsX70) in_wsX60) in_wsX00)
set_option maxRecDepth 20000 in
theorem ggL_law_X7_seal : GoodIn wsL_law wsX7_seal := goodIn_m mm_wsX7_seal (by decide +kernel)
theorem gL_law_X7_seal : GoodIn wsL_law (wsV RL 97 RX7 yX7_seal wsX7_seal) := goodIn_app (goodIn_m (am_cons (am_at in_wsL_law_r30 2 rfl) (am_cons (am_at in_wsL_law_r30 3 rfl) (am_cons (am_at in_wsL_law_r30 4 rfl) (am_cons (am_at in_wsL_law_r1 2 rfl) am_nil)))) (by decide +kernel)) ggL_law_X7_seal
set_option maxRecDepth 20000 in
theorem mm_wsX8_seal : ∀ w ∈ wsX8_seal, w ∈ wsL_law := by
  unfold wsX8_seal
  exact am_cons (am_at in_wsL_law_r30 14 rfl) (am_app (am_cons (am_at in_wsL_law_r14 2 rfl) (am_cons (am_at in_wsL_law_r6 1 rfl) (am_cons (am_at in_wsL_law_r10 10 rfl) (am_cons (am_at in_wsL_law_r6 3 rfl) (am_cons (am_at in_wsL_law_r5 6 rfl) (am_cons (am_at in_wsL_law_r14 3 rfl) (am_cons (am_at in_wsL_law_r14 4 rfl) (am_cons (am_at in_wsL_law_r14 5 rfl) (am_cons (am_at in_wsL_law_r1 5 rfl) (am_cons (am_at in_wsL_law_r14 6 rfl) (am_cons (am_at in_wsL_law_r5 0 rfl) (am_cons (am_at in_wsL_law_r6 4 rfl) (am_cons (am_at in_wsL_law_r6 5 rfl) (am_cons (am_at in_wsL_law_r6 6 rfl) am_nil)))))))))))))) in_wsX80)
set_option maxRecDepth 20000 in
theorem ggL_law_X8_seal : GoodIn wsL_law wsX8_seal := goodIn_m mm_wsX8_seal (by decide +kernel)
theorem gL_law_X8_seal : GoodIn wsL_law (wsV RL 100 RX8 yX8_seal wsX8_seal) := goodIn_app (goodIn_m (am_cons (am_at in_wsL_law_r30 11 rfl) (am_cons (am_at in_wsL_law_r30 12 rfl) (am_cons (am_at in_wsL_law_r30 13 rfl) (am_cons (am_at in_wsL_law_r1 5 rfl) am_nil)))) (by decide +kernel)) ggL_law_X8_seal
set_option maxRecDepth 20000 in
theorem mm_wsX7_fits_r1 : ∀ w ∈ wsX7_fits_r1, w ∈ wsL_law := by
  unfold wsX7_fits_r1
  exact (am_cons (am_at in_wsL_law_r2 11 rfl) (am_cons (am_at in_wsL_law_r2 22 rfl) (am_cons (am_at in_wsL_law_r30 19 rfl) (am_cons (am_at in_wsL_law_r30 20 rfl) (am_cons (am_at in_wsL_law_r30 21 rfl) (am_cons (am_at in_wsL_law_r2 10 rfl) (am_cons (am_at in_wsL_law_r30 22 rfl) (am_cons (am_at in_wsL_law_r4 9 rfl) (am_cons (am_at in_wsL_law_r30 23 rfl) (am_cons (am_at in_wsL_law_r31 0 rfl) (am_cons (am_at in_wsL_law_r31 1 rfl) (am_cons (am_at in_wsL_law_r31 2 rfl) (am_cons (am_at in_wsL_law_r4 8 rfl) (am_cons (am_at in_wsL_law_r31 3 rfl) (am_cons (am_at in_wsL_law_r31 4 rfl) (am_cons (am_at in_wsL_law_r31 5 rfl) (am_cons (am_at in_wsL_law_r22 14 rfl) (am_cons (am_at in_wsL_law_r22 15 rfl) (am_cons (am_at in_wsL_law_r2 21 rfl) (am_cons (am_at in_wsL_law_r22 16 rfl) (am_cons (am_at in_wsL_law_r7 5 rfl) (am_cons (am_at in_wsL_law_r22 17 rfl) (am_cons (am_at in_wsL_law_r18 12 rfl) (am_cons (am_at in_wsL_law_r18 13 rfl) am_nil))))))))))))))))))))))))
set_option maxRecDepth 20000 in
theorem mm_wsX7_fits_r2 : ∀ w ∈ wsX7_fits_r2, w ∈ wsL_law := by
  unfold wsX7_fits_r2
  exact (am_cons (am_at in_wsL_law_r18 14 rfl) (am_cons (am_at in_wsL_law_r7 7 rfl) (am_cons (am_at in_wsL_law_r18 15 rfl) (am_cons (am_at in_wsL_law_r9 9 rfl) (am_cons (am_at in_wsL_law_r9 10 rfl) (am_cons (am_at in_wsL_law_r9 11 rfl) (am_cons (am_at in_wsL_law_r7 6 rfl) (am_cons (am_at in_wsL_law_r4 17 rfl) (am_cons (am_at in_wsL_law_r4 18 rfl) (am_cons (am_at in_wsL_law_r31 6 rfl) (am_cons (am_at in_wsL_law_r31 7 rfl) (am_cons (am_at in_wsL_law_r31 8 rfl) (am_cons (am_at in_wsL_law_r31 9 rfl) (am_cons (am_at in_wsL_law_r30 10 rfl) (am_cons (am_at in_wsL_law_r4 7 rfl) (am_cons (am_at in_wsL_law_r4 6 rfl) (am_cons (am_at in_wsL_law_r31 10 rfl) (am_cons (am_at in_wsL_law_r16 21 rfl) (am_cons (am_at in_wsL_law_r16 22 rfl) (am_cons (am_at in_wsL_law_r16 23 rfl) (am_cons (am_at in_wsL_law_r4 15 rfl) (am_cons (am_at in_wsL_law_r7 4 rfl) (am_cons (am_at in_wsL_law_r17 0 rfl) (am_cons (am_at in_wsL_law_r13 14 rfl) am_nil))))))))))))))))))))))))
set_option maxRecDepth 20000 in
theorem mm_wsX7_fits_r3 : ∀ w ∈ wsX7_fits_r3, w ∈ wsL_law := by
  unfold wsX7_fits_r3
  exact (am_cons (am_at in_wsL_law_r13 15 rfl) (am_cons (am_at in_wsL_law_r13 16 rfl) (am_cons (am_at in_wsL_law_r31 11 rfl) (am_cons (am_at in_wsL_law_r31 12 rfl) (am_cons (am_at in_wsL_law_r31 13 rfl) (am_cons (am_at in_wsL_law_r31 14 rfl) (am_cons (am_at in_wsL_law_r31 15 rfl) (am_cons (am_at in_wsL_law_r31 16 rfl) (am_cons (am_at in_wsL_law_r31 17 rfl) (am_cons (am_at in_wsL_law_r22 19 rfl) (am_cons (am_at in_wsL_law_r1 2 rfl) (am_cons (am_at in_wsL_law_r22 20 rfl) am_nil))))))))))))
set_option maxRecDepth 20000 in
theorem mm_wsX7_fits : ∀ w ∈ wsX7_fits, w ∈ wsL_law := by
  unfold wsX7_fits
  exact am_cons (am_at in_wsL_law_r30 18 rfl) (am_app (am_app (am_app (am_app mm_wsX7_fits_r1 (am_app mm_wsX7_fits_r2 mm_wsX7_fits_r3)) in_wsX70) in_wsX60) in_wsX00)
set_option maxRecDepth 20000 in
theorem ggL_law_X7_fits : GoodIn wsL_law wsX7_fits := goodIn_m mm_wsX7_fits (by decide +kernel)
theorem gL_law_X7_fits : GoodIn wsL_law (wsV RL 101 RX7 yX7_fits wsX7_fits) := goodIn_app (goodIn_m (am_cons (am_at in_wsL_law_r30 15 rfl) (am_cons (am_at in_wsL_law_r30 16 rfl) (am_cons (am_at in_wsL_law_r30 17 rfl) (am_cons (am_at in_wsL_law_r1 2 rfl) am_nil)))) (by decide +kernel)) ggL_law_X7_fits
set_option maxRecDepth 20000 in
theorem mm_wsX8_fits_r1 : ∀ w ∈ wsX8_fits_r1, w ∈ wsL_law := by
  unfold wsX8_fits_r1
  exact (am_cons (am_at in_wsL_law_r31 22 rfl) (am_cons (am_at in_wsL_law_r31 23 rfl) (am_cons (am_at in_wsL_law_r32 0 rfl) (am_cons (am_at in_wsL_law_r1 5 rfl) (am_cons (am_at in_wsL_law_r32 1 rfl) (am_cons (am_at in_wsL_law_r5 12 rfl) (am_cons (am_at in_wsL_law_r5 0 rfl) (am_cons (am_at in_wsL_law_r27 10 rfl) (am_cons (am_at in_wsL_law_r27 11 rfl) (am_cons (am_at in_wsL_law_r27 12 rfl) (am_cons (am_at in_wsL_law_r32 2 rfl) (am_cons (am_at in_wsL_law_r32 3 rfl) (am_cons (am_at in_wsL_law_r32 4 rfl) (am_cons (am_at in_wsL_law_r32 5 rfl) (am_cons (am_at in_wsL_law_r10 10 rfl) (am_cons (am_at in_wsL_law_r5 6 rfl) (am_cons (am_at in_wsL_law_r17 23 rfl) (am_cons (am_at in_wsL_law_r18 0 rfl) (am_cons (am_at in_wsL_law_r18 1 rfl) (am_cons (am_at in_wsL_law_r18 2 rfl) (am_cons (am_at in_wsL_law_r27 18 rfl) (am_cons (am_at in_wsL_law_r27 19 rfl) (am_cons (am_at in_wsL_law_r27 20 rfl) (am_cons (am_at in_wsL_law_r27 21 rfl) am_nil))))))))))))))))))))))))
set_option maxRecDepth 20000 in
theorem mm_wsX8_fits_r2 : ∀ w ∈ wsX8_fits_r2, w ∈ wsL_law := by
  unfold wsX8_fits_r2
  exact (am_cons (am_at in_wsL_law_r19 0 rfl) (am_cons (am_at in_wsL_law_r19 1 rfl) (am_cons (am_at in_wsL_law_r19 2 rfl) (am_cons (am_at in_wsL_law_r19 3 rfl) (am_cons (am_at in_wsL_law_r14 7 rfl) (am_cons (am_at in_wsL_law_r14 8 rfl) (am_cons (am_at in_wsL_law_r14 9 rfl) (am_cons (am_at in_wsL_law_r14 10 rfl) (am_cons (am_at in_wsL_law_r14 11 rfl) (am_cons (am_at in_wsL_law_r14 12 rfl) (am_cons (am_at in_wsL_law_r14 13 rfl) (am_cons (am_at in_wsL_law_r14 14 rfl) (am_cons (am_at in_wsL_law_r27 22 rfl) (am_cons (am_at in_wsL_law_r27 23 rfl) (am_cons (am_at in_wsL_law_r28 0 rfl) am_nil)))))))))))))))
set_option maxRecDepth 20000 in
theorem mm_wsX8_fits : ∀ w ∈ wsX8_fits, w ∈ wsL_law := by
  unfold wsX8_fits
  exact am_cons (am_at in_wsL_law_r31 21 rfl) (am_app (am_app mm_wsX8_fits_r1 mm_wsX8_fits_r2) in_wsX80)
set_option maxRecDepth 20000 in
theorem ggL_law_X8_fits : GoodIn wsL_law wsX8_fits := goodIn_m mm_wsX8_fits (by decide +kernel)
theorem gL_law_X8_fits : GoodIn wsL_law (wsV RL 104 RX8 yX8_fits wsX8_fits) := goodIn_app (goodIn_m (am_cons (am_at in_wsL_law_r31 18 rfl) (am_cons (am_at in_wsL_law_r31 19 rfl) (am_cons (am_at in_wsL_law_r31 20 rfl) (am_cons (am_at in_wsL_law_r1 5 rfl) am_nil)))) (by decide +kernel)) ggL_law_X8_fits
set_option maxRecDepth 20000 in
theorem mm_wsX7_bought_r1 : ∀ w ∈ wsX7_bought_r1, w ∈ wsL_law := by
  unfold wsX7_bought_r1
  exact (am_cons (am_at in_wsL_law_r2 11 rfl) (am_cons (am_at in_wsL_law_r2 22 rfl) (am_cons (am_at in_wsL_law_r32 10 rfl) (am_cons (am_at in_wsL_law_r32 11 rfl) (am_cons (am_at in_wsL_law_r32 12 rfl) (am_cons (am_at in_wsL_law_r2 10 rfl) (am_cons (am_at in_wsL_law_r32 13 rfl) (am_cons (am_at in_wsL_law_r30 10 rfl) (am_cons (am_at in_wsL_law_r32 14 rfl) (am_cons (am_at in_wsL_law_r30 20 rfl) (am_cons (am_at in_wsL_law_r30 21 rfl) (am_cons (am_at in_wsL_law_r30 22 rfl) (am_cons (am_at in_wsL_law_r4 9 rfl) (am_cons (am_at in_wsL_law_r30 23 rfl) (am_cons (am_at in_wsL_law_r31 0 rfl) (am_cons (am_at in_wsL_law_r31 1 rfl) (am_cons (am_at in_wsL_law_r31 2 rfl) (am_cons (am_at in_wsL_law_r4 8 rfl) (am_cons (am_at in_wsL_law_r31 3 rfl) (am_cons (am_at in_wsL_law_r31 4 rfl) (am_cons (am_at in_wsL_law_r31 5 rfl) (am_cons (am_at in_wsL_law_r22 14 rfl) (am_cons (am_at in_wsL_law_r22 15 rfl) (am_cons (am_at in_wsL_law_r2 21 rfl) am_nil))))))))))))))))))))))))
set_option maxRecDepth 20000 in
theorem mm_wsX7_bought_r2 : ∀ w ∈ wsX7_bought_r2, w ∈ wsL_law := by
  unfold wsX7_bought_r2
  exact (am_cons (am_at in_wsL_law_r22 16 rfl) (am_cons (am_at in_wsL_law_r7 5 rfl) (am_cons (am_at in_wsL_law_r22 17 rfl) (am_cons (am_at in_wsL_law_r18 12 rfl) (am_cons (am_at in_wsL_law_r18 13 rfl) (am_cons (am_at in_wsL_law_r18 14 rfl) (am_cons (am_at in_wsL_law_r7 7 rfl) (am_cons (am_at in_wsL_law_r18 15 rfl) (am_cons (am_at in_wsL_law_r9 9 rfl) (am_cons (am_at in_wsL_law_r9 10 rfl) (am_cons (am_at in_wsL_law_r9 11 rfl) (am_cons (am_at in_wsL_law_r7 6 rfl) (am_cons (am_at in_wsL_law_r4 17 rfl) (am_cons (am_at in_wsL_law_r4 18 rfl) (am_cons (am_at in_wsL_law_r31 6 rfl) (am_cons (am_at in_wsL_law_r31 7 rfl) (am_cons (am_at in_wsL_law_r31 8 rfl) (am_cons (am_at in_wsL_law_r31 9 rfl) (am_cons (am_at in_wsL_law_r4 7 rfl) (am_cons (am_at in_wsL_law_r4 6 rfl) (am_cons (am_at in_wsL_law_r31 10 rfl) (am_cons (am_at in_wsL_law_r16 21 rfl) (am_cons (am_at in_wsL_law_r16 22 rfl) (am_cons (am_at in_wsL_law_r16 23 rfl) am_nil))))))))))))))))))))))))
set_option maxRecDepth 20000 in
theorem mm_wsX7_bought_r3 : ∀ w ∈ wsX7_bought_r3, w ∈ wsL_law := by
  unfold wsX7_bought_r3
  exact (am_cons (am_at in_wsL_law_r4 15 rfl) (am_cons (am_at in_wsL_law_r7 4 rfl) (am_cons (am_at in_wsL_law_r17 0 rfl) (am_cons (am_at in_wsL_law_r13 14 rfl) (am_cons (am_at in_wsL_law_r13 15 rfl) (am_cons (am_at in_wsL_law_r13 16 rfl) (am_cons (am_at in_wsL_law_r31 11 rfl) (am_cons (am_at in_wsL_law_r31 12 rfl) (am_cons (am_at in_wsL_law_r31 13 rfl) (am_cons (am_at in_wsL_law_r31 14 rfl) (am_cons (am_at in_wsL_law_r31 15 rfl) (am_cons (am_at in_wsL_law_r31 16 rfl) (am_cons (am_at in_wsL_law_r31 17 rfl) (am_cons (am_at in_wsL_law_r22 19 rfl) (am_cons (am_at in_wsL_law_r1 2 rfl) (am_cons (am_at in_wsL_law_r22 20 rfl) am_nil))))))))))))))))
set_option maxRecDepth 20000 in
theorem mm_wsX7_bought : ∀ w ∈ wsX7_bought, w ∈ wsL_law := by
  unfold wsX7_bought
  exact am_cons (am_at in_wsL_law_r32 9 rfl) (am_app (am_app (am_app (am_app mm_wsX7_bought_r1 (am_app mm_wsX7_bought_r2 mm_wsX7_bought_r3)) in_wsX70) in_wsX60) in_wsX00)
set_option maxRecDepth 20000 in
theorem ggL_law_X7_bought : GoodIn wsL_law wsX7_bought := goodIn_m mm_wsX7_bought (by decide +kernel)
theorem gL_law_X7_bought : GoodIn wsL_law (wsV RL 105 RX7 yX7_bought wsX7_bought) := goodIn_app (goodIn_m (am_cons (am_at in_wsL_law_r32 6 rfl) (am_cons (am_at in_wsL_law_r32 7 rfl) (am_cons (am_at in_wsL_law_r32 8 rfl) (am_cons (am_at in_wsL_law_r1 2 rfl) am_nil)))) (by decide +kernel)) ggL_law_X7_bought
set_option maxRecDepth 20000 in
theorem mm_wsX8_bought_r1 : ∀ w ∈ wsX8_bought_r1, w ∈ wsL_law := by
  unfold wsX8_bought_r1
  exact (am_cons (am_at in_wsL_law_r10 10 rfl) (am_cons (am_at in_wsL_law_r31 22 rfl) (am_cons (am_at in_wsL_law_r31 23 rfl) (am_cons (am_at in_wsL_law_r32 0 rfl) (am_cons (am_at in_wsL_law_r1 5 rfl) (am_cons (am_at in_wsL_law_r32 1 rfl) (am_cons (am_at in_wsL_law_r5 12 rfl) (am_cons (am_at in_wsL_law_r5 0 rfl) (am_cons (am_at in_wsL_law_r27 10 rfl) (am_cons (am_at in_wsL_law_r27 11 rfl) (am_cons (am_at in_wsL_law_r27 12 rfl) (am_cons (am_at in_wsL_law_r32 2 rfl) (am_cons (am_at in_wsL_law_r32 3 rfl) (am_cons (am_at in_wsL_law_r32 4 rfl) (am_cons (am_at in_wsL_law_r32 5 rfl) (am_cons (am_at in_wsL_law_r5 6 rfl) (am_cons (am_at in_wsL_law_r17 23 rfl) (am_cons (am_at in_wsL_law_r18 0 rfl) (am_cons (am_at in_wsL_law_r18 1 rfl) (am_cons (am_at in_wsL_law_r18 2 rfl) (am_cons (am_at in_wsL_law_r27 18 rfl) (am_cons (am_at in_wsL_law_r27 19 rfl) (am_cons (am_at in_wsL_law_r27 20 rfl) (am_cons (am_at in_wsL_law_r27 21 rfl) am_nil))))))))))))))))))))))))
set_option maxRecDepth 20000 in
theorem mm_wsX8_bought_r2 : ∀ w ∈ wsX8_bought_r2, w ∈ wsL_law := by
  unfold wsX8_bought_r2
  exact (am_cons (am_at in_wsL_law_r19 0 rfl) (am_cons (am_at in_wsL_law_r19 1 rfl) (am_cons (am_at in_wsL_law_r19 2 rfl) (am_cons (am_at in_wsL_law_r19 3 rfl) (am_cons (am_at in_wsL_law_r14 7 rfl) (am_cons (am_at in_wsL_law_r14 8 rfl) (am_cons (am_at in_wsL_law_r14 9 rfl) (am_cons (am_at in_wsL_law_r14 10 rfl) (am_cons (am_at in_wsL_law_r14 11 rfl) (am_cons (am_at in_wsL_law_r14 12 rfl) (am_cons (am_at in_wsL_law_r14 13 rfl) (am_cons (am_at in_wsL_law_r14 14 rfl) (am_cons (am_at in_wsL_law_r27 22 rfl) (am_cons (am_at in_wsL_law_r27 23 rfl) (am_cons (am_at in_wsL_law_r28 0 rfl) am_nil)))))))))))))))
set_option maxRecDepth 20000 in
theorem mm_wsX8_bought : ∀ w ∈ wsX8_bought, w ∈ wsL_law := by
  unfold wsX8_bought
  exact am_cons (am_at in_wsL_law_r32 18 rfl) (am_app (am_app mm_wsX8_bought_r1 mm_wsX8_bought_r2) in_wsX80)
set_option maxRecDepth 20000 in
theorem ggL_law_X8_bought : GoodIn wsL_law wsX8_bought := goodIn_m mm_wsX8_bought (by decide +kernel)
theorem gL_law_X8_bought : GoodIn wsL_law (wsV RL 108 RX8 yX8_bought wsX8_bought) := goodIn_app (goodIn_m (am_cons (am_at in_wsL_law_r32 15 rfl) (am_cons (am_at in_wsL_law_r32 16 rfl) (am_cons (am_at in_wsL_law_r32 17 rfl) (am_cons (am_at in_wsL_law_r1 5 rfl) am_nil)))) (by decide +kernel)) ggL_law_X8_bought
set_option maxRecDepth 20000 in
theorem mm_wsX7_was_r1 : ∀ w ∈ wsX7_was_r1, w ∈ wsL_law := by
  unfold wsX7_was_r1
  exact (am_cons (am_at in_wsL_law_r5 17 rfl) (am_cons (am_at in_wsL_law_r2 11 rfl) (am_cons (am_at in_wsL_law_r2 22 rfl) (am_cons (am_at in_wsL_law_r32 23 rfl) (am_cons (am_at in_wsL_law_r33 0 rfl) (am_cons (am_at in_wsL_law_r33 1 rfl) (am_cons (am_at in_wsL_law_r2 10 rfl) (am_cons (am_at in_wsL_law_r33 2 rfl) (am_cons (am_at in_wsL_law_r30 23 rfl) (am_cons (am_at in_wsL_law_r31 0 rfl) (am_cons (am_at in_wsL_law_r31 1 rfl) (am_cons (am_at in_wsL_law_r31 2 rfl) (am_cons (am_at in_wsL_law_r4 8 rfl) (am_cons (am_at in_wsL_law_r4 9 rfl) (am_cons (am_at in_wsL_law_r31 3 rfl) (am_cons (am_at in_wsL_law_r31 4 rfl) (am_cons (am_at in_wsL_law_r31 5 rfl) (am_cons (am_at in_wsL_law_r22 14 rfl) (am_cons (am_at in_wsL_law_r22 15 rfl) (am_cons (am_at in_wsL_law_r2 21 rfl) (am_cons (am_at in_wsL_law_r22 16 rfl) (am_cons (am_at in_wsL_law_r7 5 rfl) (am_cons (am_at in_wsL_law_r22 17 rfl) (am_cons (am_at in_wsL_law_r18 12 rfl) am_nil))))))))))))))))))))))))
set_option maxRecDepth 20000 in
theorem mm_wsX7_was_r2 : ∀ w ∈ wsX7_was_r2, w ∈ wsL_law := by
  unfold wsX7_was_r2
  exact (am_cons (am_at in_wsL_law_r18 13 rfl) (am_cons (am_at in_wsL_law_r18 14 rfl) (am_cons (am_at in_wsL_law_r7 7 rfl) (am_cons (am_at in_wsL_law_r18 15 rfl) (am_cons (am_at in_wsL_law_r9 9 rfl) (am_cons (am_at in_wsL_law_r9 10 rfl) (am_cons (am_at in_wsL_law_r9 11 rfl) (am_cons (am_at in_wsL_law_r7 6 rfl) (am_cons (am_at in_wsL_law_r4 17 rfl) (am_cons (am_at in_wsL_law_r4 18 rfl) (am_cons (am_at in_wsL_law_r31 6 rfl) (am_cons (am_at in_wsL_law_r31 7 rfl) (am_cons (am_at in_wsL_law_r31 8 rfl) (am_cons (am_at in_wsL_law_r31 9 rfl) (am_cons (am_at in_wsL_law_r30 10 rfl) (am_cons (am_at in_wsL_law_r4 7 rfl) (am_cons (am_at in_wsL_law_r4 6 rfl) (am_cons (am_at in_wsL_law_r31 10 rfl) (am_cons (am_at in_wsL_law_r16 21 rfl) (am_cons (am_at in_wsL_law_r16 22 rfl) (am_cons (am_at in_wsL_law_r16 23 rfl) (am_cons (am_at in_wsL_law_r4 15 rfl) (am_cons (am_at in_wsL_law_r7 4 rfl) (am_cons (am_at in_wsL_law_r17 0 rfl) am_nil))))))))))))))))))))))))
set_option maxRecDepth 20000 in
theorem mm_wsX7_was_r3 : ∀ w ∈ wsX7_was_r3, w ∈ wsL_law := by
  unfold wsX7_was_r3
  exact (am_cons (am_at in_wsL_law_r13 14 rfl) (am_cons (am_at in_wsL_law_r13 15 rfl) (am_cons (am_at in_wsL_law_r13 16 rfl) (am_cons (am_at in_wsL_law_r31 11 rfl) (am_cons (am_at in_wsL_law_r31 12 rfl) (am_cons (am_at in_wsL_law_r31 13 rfl) (am_cons (am_at in_wsL_law_r31 14 rfl) (am_cons (am_at in_wsL_law_r31 15 rfl) (am_cons (am_at in_wsL_law_r31 16 rfl) (am_cons (am_at in_wsL_law_r31 17 rfl) (am_cons (am_at in_wsL_law_r22 19 rfl) (am_cons (am_at in_wsL_law_r1 2 rfl) (am_cons (am_at in_wsL_law_r22 20 rfl) (am_cons (am_at in_wsL_law_r33 3 rfl) (am_cons (am_at in_wsL_law_r33 4 rfl) (am_cons (am_at in_wsL_law_r33 5 rfl) (am_cons (am_at in_wsL_law_r33 6 rfl) (am_cons (am_at in_wsL_law_r4 10 rfl) (am_cons (am_at in_wsL_law_r33 7 rfl) (am_cons (am_at in_wsL_law_r25 13 rfl) (am_cons (am_at in_wsL_law_r25 14 rfl) (am_cons (am_at in_wsL_law_r25 15 rfl) (am_cons (am_at in_wsL_law_r33 8 rfl) (am_cons (am_at in_wsL_law_r33 9 rfl) am_nil))))))))))))))))))))))))
set_option maxRecDepth 20000 in
theorem mm_wsX7_was_r4 : ∀ w ∈ wsX7_was_r4, w ∈ wsL_law := by
  unfold wsX7_was_r4
  exact (am_cons (am_at in_wsL_law_r33 10 rfl) (am_cons (am_at in_wsL_law_r33 11 rfl) (am_cons (am_at in_wsL_law_r33 12 rfl) (am_cons (am_at in_wsL_law_r33 13 rfl) (am_cons (am_at in_wsL_law_r33 14 rfl) (am_cons (am_at in_wsL_law_r33 15 rfl) am_nil))))))
set_option maxRecDepth 20000 in
theorem mm_wsX7_was : ∀ w ∈ wsX7_was, w ∈ wsL_law := by
  unfold wsX7_was
  exact am_cons (am_at in_wsL_law_r32 22 rfl) (am_app (am_app (am_app (am_app mm_wsX7_was_r1 (am_app mm_wsX7_was_r2 (am_app mm_wsX7_was_r3 mm_wsX7_was_r4))) in_wsX70) in_wsX60) in_wsX00)
set_option maxRecDepth 20000 in
theorem ggL_law_X7_was : GoodIn wsL_law wsX7_was := goodIn_m mm_wsX7_was (by decide +kernel)
theorem gL_law_X7_was : GoodIn wsL_law (wsV RL 109 RX7 yX7_was wsX7_was) := goodIn_app (goodIn_m (am_cons (am_at in_wsL_law_r32 19 rfl) (am_cons (am_at in_wsL_law_r32 20 rfl) (am_cons (am_at in_wsL_law_r32 21 rfl) (am_cons (am_at in_wsL_law_r1 2 rfl) am_nil)))) (by decide +kernel)) ggL_law_X7_was
set_option maxRecDepth 20000 in
theorem mm_wsX8_was_r1 : ∀ w ∈ wsX8_was_r1, w ∈ wsL_law := by
  unfold wsX8_was_r1
  exact (am_cons (am_at in_wsL_law_r6 1 rfl) (am_cons (am_at in_wsL_law_r5 12 rfl) (am_cons (am_at in_wsL_law_r6 4 rfl) (am_cons (am_at in_wsL_law_r6 5 rfl) (am_cons (am_at in_wsL_law_r1 5 rfl) (am_cons (am_at in_wsL_law_r6 6 rfl) (am_cons (am_at in_wsL_law_r33 20 rfl) (am_cons (am_at in_wsL_law_r33 21 rfl) (am_cons (am_at in_wsL_law_r33 22 rfl) (am_cons (am_at in_wsL_law_r33 23 rfl) (am_cons (am_at in_wsL_law_r31 22 rfl) (am_cons (am_at in_wsL_law_r31 23 rfl) (am_cons (am_at in_wsL_law_r32 0 rfl) (am_cons (am_at in_wsL_law_r32 1 rfl) (am_cons (am_at in_wsL_law_r5 0 rfl) (am_cons (am_at in_wsL_law_r27 10 rfl) (am_cons (am_at in_wsL_law_r27 11 rfl) (am_cons (am_at in_wsL_law_r27 12 rfl) (am_cons (am_at in_wsL_law_r32 2 rfl) (am_cons (am_at in_wsL_law_r32 3 rfl) (am_cons (am_at in_wsL_law_r32 4 rfl) (am_cons (am_at in_wsL_law_r32 5 rfl) (am_cons (am_at in_wsL_law_r10 10 rfl) (am_cons (am_at in_wsL_law_r5 6 rfl) am_nil))))))))))))))))))))))))
set_option maxRecDepth 20000 in
theorem mm_wsX8_was_r2 : ∀ w ∈ wsX8_was_r2, w ∈ wsL_law := by
  unfold wsX8_was_r2
  exact (am_cons (am_at in_wsL_law_r17 23 rfl) (am_cons (am_at in_wsL_law_r18 0 rfl) (am_cons (am_at in_wsL_law_r18 1 rfl) (am_cons (am_at in_wsL_law_r18 2 rfl) (am_cons (am_at in_wsL_law_r27 18 rfl) (am_cons (am_at in_wsL_law_r27 19 rfl) (am_cons (am_at in_wsL_law_r27 20 rfl) (am_cons (am_at in_wsL_law_r27 21 rfl) (am_cons (am_at in_wsL_law_r19 0 rfl) (am_cons (am_at in_wsL_law_r19 1 rfl) (am_cons (am_at in_wsL_law_r19 2 rfl) (am_cons (am_at in_wsL_law_r19 3 rfl) (am_cons (am_at in_wsL_law_r14 7 rfl) (am_cons (am_at in_wsL_law_r14 8 rfl) (am_cons (am_at in_wsL_law_r14 9 rfl) (am_cons (am_at in_wsL_law_r14 10 rfl) (am_cons (am_at in_wsL_law_r14 11 rfl) (am_cons (am_at in_wsL_law_r14 12 rfl) (am_cons (am_at in_wsL_law_r14 13 rfl) (am_cons (am_at in_wsL_law_r14 14 rfl) (am_cons (am_at in_wsL_law_r27 22 rfl) (am_cons (am_at in_wsL_law_r27 23 rfl) (am_cons (am_at in_wsL_law_r28 0 rfl) (am_cons (am_at in_wsL_law_r34 0 rfl) am_nil))))))))))))))))))))))))
set_option maxRecDepth 20000 in
theorem mm_wsX8_was_r3 : ∀ w ∈ wsX8_was_r3, w ∈ wsL_law := by
  unfold wsX8_was_r3
  exact (am_cons (am_at in_wsL_law_r34 1 rfl) (am_cons (am_at in_wsL_law_r34 2 rfl) (am_cons (am_at in_wsL_law_r34 3 rfl) (am_cons (am_at in_wsL_law_r28 1 rfl) (am_cons (am_at in_wsL_law_r28 2 rfl) (am_cons (am_at in_wsL_law_r28 3 rfl) (am_cons (am_at in_wsL_law_r27 17 rfl) am_nil)))))))
set_option maxRecDepth 20000 in
theorem mm_wsX8_was : ∀ w ∈ wsX8_was, w ∈ wsL_law := by
  unfold wsX8_was
  exact am_cons (am_at in_wsL_law_r33 19 rfl) (am_app (am_app mm_wsX8_was_r1 (am_app mm_wsX8_was_r2 mm_wsX8_was_r3)) in_wsX80)
set_option maxRecDepth 20000 in
theorem ggL_law_X8_was : GoodIn wsL_law wsX8_was := goodIn_m mm_wsX8_was (by decide +kernel)
theorem gL_law_X8_was : GoodIn wsL_law (wsV RL 112 RX8 yX8_was wsX8_was) := goodIn_app (goodIn_m (am_cons (am_at in_wsL_law_r33 16 rfl) (am_cons (am_at in_wsL_law_r33 17 rfl) (am_cons (am_at in_wsL_law_r33 18 rfl) (am_cons (am_at in_wsL_law_r1 5 rfl) am_nil)))) (by decide +kernel)) ggL_law_X8_was
set_option maxRecDepth 20000 in
theorem mm_wsX7_ask_r1 : ∀ w ∈ wsX7_ask_r1, w ∈ wsL_law := by
  unfold wsX7_ask_r1
  exact (am_cons (am_at in_wsL_law_r2 11 rfl) (am_cons (am_at in_wsL_law_r2 22 rfl) (am_cons (am_at in_wsL_law_r32 23 rfl) (am_cons (am_at in_wsL_law_r33 0 rfl) (am_cons (am_at in_wsL_law_r33 1 rfl) (am_cons (am_at in_wsL_law_r2 10 rfl) (am_cons (am_at in_wsL_law_r33 2 rfl) (am_cons (am_at in_wsL_law_r30 23 rfl) (am_cons (am_at in_wsL_law_r31 0 rfl) (am_cons (am_at in_wsL_law_r31 1 rfl) (am_cons (am_at in_wsL_law_r31 2 rfl) (am_cons (am_at in_wsL_law_r4 8 rfl) (am_cons (am_at in_wsL_law_r4 9 rfl) (am_cons (am_at in_wsL_law_r31 3 rfl) (am_cons (am_at in_wsL_law_r31 4 rfl) (am_cons (am_at in_wsL_law_r31 5 rfl) (am_cons (am_at in_wsL_law_r22 14 rfl) (am_cons (am_at in_wsL_law_r22 15 rfl) (am_cons (am_at in_wsL_law_r2 21 rfl) (am_cons (am_at in_wsL_law_r22 16 rfl) (am_cons (am_at in_wsL_law_r7 5 rfl) (am_cons (am_at in_wsL_law_r22 17 rfl) (am_cons (am_at in_wsL_law_r18 12 rfl) (am_cons (am_at in_wsL_law_r18 13 rfl) am_nil))))))))))))))))))))))))
set_option maxRecDepth 20000 in
theorem mm_wsX7_ask_r2 : ∀ w ∈ wsX7_ask_r2, w ∈ wsL_law := by
  unfold wsX7_ask_r2
  exact (am_cons (am_at in_wsL_law_r18 14 rfl) (am_cons (am_at in_wsL_law_r7 7 rfl) (am_cons (am_at in_wsL_law_r18 15 rfl) (am_cons (am_at in_wsL_law_r9 9 rfl) (am_cons (am_at in_wsL_law_r9 10 rfl) (am_cons (am_at in_wsL_law_r9 11 rfl) (am_cons (am_at in_wsL_law_r7 6 rfl) (am_cons (am_at in_wsL_law_r4 17 rfl) (am_cons (am_at in_wsL_law_r4 18 rfl) (am_cons (am_at in_wsL_law_r31 6 rfl) (am_cons (am_at in_wsL_law_r31 7 rfl) (am_cons (am_at in_wsL_law_r31 8 rfl) (am_cons (am_at in_wsL_law_r31 9 rfl) (am_cons (am_at in_wsL_law_r30 10 rfl) (am_cons (am_at in_wsL_law_r4 7 rfl) (am_cons (am_at in_wsL_law_r4 6 rfl) (am_cons (am_at in_wsL_law_r31 10 rfl) (am_cons (am_at in_wsL_law_r16 21 rfl) (am_cons (am_at in_wsL_law_r16 22 rfl) (am_cons (am_at in_wsL_law_r16 23 rfl) (am_cons (am_at in_wsL_law_r4 15 rfl) (am_cons (am_at in_wsL_law_r7 4 rfl) (am_cons (am_at in_wsL_law_r17 0 rfl) (am_cons (am_at in_wsL_law_r13 14 rfl) am_nil))))))))))))))))))))))))
set_option maxRecDepth 20000 in
theorem mm_wsX7_ask_r3 : ∀ w ∈ wsX7_ask_r3, w ∈ wsL_law := by
  unfold wsX7_ask_r3
  exact (am_cons (am_at in_wsL_law_r13 15 rfl) (am_cons (am_at in_wsL_law_r13 16 rfl) (am_cons (am_at in_wsL_law_r31 11 rfl) (am_cons (am_at in_wsL_law_r31 12 rfl) (am_cons (am_at in_wsL_law_r31 13 rfl) (am_cons (am_at in_wsL_law_r31 14 rfl) (am_cons (am_at in_wsL_law_r31 15 rfl) (am_cons (am_at in_wsL_law_r31 16 rfl) (am_cons (am_at in_wsL_law_r31 17 rfl) (am_cons (am_at in_wsL_law_r22 19 rfl) (am_cons (am_at in_wsL_law_r1 2 rfl) (am_cons (am_at in_wsL_law_r22 20 rfl) (am_cons (am_at in_wsL_law_r33 3 rfl) (am_cons (am_at in_wsL_law_r33 4 rfl) (am_cons (am_at in_wsL_law_r33 5 rfl) (am_cons (am_at in_wsL_law_r33 6 rfl) (am_cons (am_at in_wsL_law_r4 10 rfl) (am_cons (am_at in_wsL_law_r33 7 rfl) (am_cons (am_at in_wsL_law_r25 13 rfl) (am_cons (am_at in_wsL_law_r25 14 rfl) (am_cons (am_at in_wsL_law_r25 15 rfl) (am_cons (am_at in_wsL_law_r33 8 rfl) (am_cons (am_at in_wsL_law_r33 9 rfl) (am_cons (am_at in_wsL_law_r33 10 rfl) am_nil))))))))))))))))))))))))
set_option maxRecDepth 20000 in
theorem mm_wsX7_ask_r4 : ∀ w ∈ wsX7_ask_r4, w ∈ wsL_law := by
  unfold wsX7_ask_r4
  exact (am_cons (am_at in_wsL_law_r33 11 rfl) (am_cons (am_at in_wsL_law_r34 8 rfl) (am_cons (am_at in_wsL_law_r34 9 rfl) (am_cons (am_at in_wsL_law_r34 10 rfl) (am_cons (am_at in_wsL_law_r34 11 rfl) (am_cons (am_at in_wsL_law_r34 12 rfl) (am_cons (am_at in_wsL_law_r33 13 rfl) (am_cons (am_at in_wsL_law_r33 14 rfl) (am_cons (am_at in_wsL_law_r33 15 rfl) (am_cons (am_at in_wsL_law_r34 13 rfl) (am_cons (am_at in_wsL_law_r34 14 rfl) (am_cons (am_at in_wsL_law_r34 15 rfl) (am_cons (am_at in_wsL_law_r34 16 rfl) (am_cons (am_at in_wsL_law_r34 17 rfl) (am_cons (am_at in_wsL_law_r34 18 rfl) (am_cons (am_at in_wsL_law_r34 19 rfl) am_nil))))))))))))))))
set_option maxRecDepth 20000 in
theorem mm_wsX7_ask : ∀ w ∈ wsX7_ask, w ∈ wsL_law := by
  unfold wsX7_ask
  exact am_cons (am_at in_wsL_law_r34 7 rfl) (am_app (am_app (am_app (am_app mm_wsX7_ask_r1 (am_app mm_wsX7_ask_r2 (am_app mm_wsX7_ask_r3 mm_wsX7_ask_r4))) in_wsX70) in_wsX60) in_wsX00)
set_option maxRecDepth 20000 in
theorem ggL_law_X7_ask : GoodIn wsL_law wsX7_ask := goodIn_m mm_wsX7_ask (by decide +kernel)
theorem gL_law_X7_ask : GoodIn wsL_law (wsV RL 113 RX7 yX7_ask wsX7_ask) := goodIn_app (goodIn_m (am_cons (am_at in_wsL_law_r34 4 rfl) (am_cons (am_at in_wsL_law_r34 5 rfl) (am_cons (am_at in_wsL_law_r34 6 rfl) (am_cons (am_at in_wsL_law_r1 2 rfl) am_nil)))) (by decide +kernel)) ggL_law_X7_ask
set_option maxRecDepth 20000 in
theorem mm_wsX8_ask_r1 : ∀ w ∈ wsX8_ask_r1, w ∈ wsL_law := by
  unfold wsX8_ask_r1
  exact (am_cons (am_at in_wsL_law_r5 12 rfl) (am_cons (am_at in_wsL_law_r33 20 rfl) (am_cons (am_at in_wsL_law_r33 21 rfl) (am_cons (am_at in_wsL_law_r33 22 rfl) (am_cons (am_at in_wsL_law_r1 5 rfl) (am_cons (am_at in_wsL_law_r33 23 rfl) (am_cons (am_at in_wsL_law_r31 22 rfl) (am_cons (am_at in_wsL_law_r31 23 rfl) (am_cons (am_at in_wsL_law_r32 0 rfl) (am_cons (am_at in_wsL_law_r32 1 rfl) (am_cons (am_at in_wsL_law_r5 0 rfl) (am_cons (am_at in_wsL_law_r27 10 rfl) (am_cons (am_at in_wsL_law_r27 11 rfl) (am_cons (am_at in_wsL_law_r27 12 rfl) (am_cons (am_at in_wsL_law_r32 2 rfl) (am_cons (am_at in_wsL_law_r32 3 rfl) (am_cons (am_at in_wsL_law_r32 4 rfl) (am_cons (am_at in_wsL_law_r32 5 rfl) (am_cons (am_at in_wsL_law_r10 10 rfl) (am_cons (am_at in_wsL_law_r5 6 rfl) (am_cons (am_at in_wsL_law_r17 23 rfl) (am_cons (am_at in_wsL_law_r18 0 rfl) (am_cons (am_at in_wsL_law_r18 1 rfl) (am_cons (am_at in_wsL_law_r18 2 rfl) am_nil))))))))))))))))))))))))
set_option maxRecDepth 20000 in
theorem mm_wsX8_ask_r2 : ∀ w ∈ wsX8_ask_r2, w ∈ wsL_law := by
  unfold wsX8_ask_r2
  exact (am_cons (am_at in_wsL_law_r27 18 rfl) (am_cons (am_at in_wsL_law_r27 19 rfl) (am_cons (am_at in_wsL_law_r27 20 rfl) (am_cons (am_at in_wsL_law_r27 21 rfl) (am_cons (am_at in_wsL_law_r19 0 rfl) (am_cons (am_at in_wsL_law_r19 1 rfl) (am_cons (am_at in_wsL_law_r19 2 rfl) (am_cons (am_at in_wsL_law_r19 3 rfl) (am_cons (am_at in_wsL_law_r14 7 rfl) (am_cons (am_at in_wsL_law_r14 8 rfl) (am_cons (am_at in_wsL_law_r14 9 rfl) (am_cons (am_at in_wsL_law_r14 10 rfl) (am_cons (am_at in_wsL_law_r14 11 rfl) (am_cons (am_at in_wsL_law_r14 12 rfl) (am_cons (am_at in_wsL_law_r14 13 rfl) (am_cons (am_at in_wsL_law_r14 14 rfl) (am_cons (am_at in_wsL_law_r27 22 rfl) (am_cons (am_at in_wsL_law_r27 23 rfl) (am_cons (am_at in_wsL_law_r28 0 rfl) (am_cons (am_at in_wsL_law_r34 0 rfl) (am_cons (am_at in_wsL_law_r34 1 rfl) (am_cons (am_at in_wsL_law_r34 2 rfl) (am_cons (am_at in_wsL_law_r34 3 rfl) (am_cons (am_at in_wsL_law_r28 1 rfl) am_nil))))))))))))))))))))))))
set_option maxRecDepth 20000 in
theorem mm_wsX8_ask_r3 : ∀ w ∈ wsX8_ask_r3, w ∈ wsL_law := by
  unfold wsX8_ask_r3
  exact (am_cons (am_at in_wsL_law_r28 2 rfl) (am_cons (am_at in_wsL_law_r28 3 rfl) (am_cons (am_at in_wsL_law_r27 17 rfl) (am_cons (am_at in_wsL_law_r35 0 rfl) (am_cons (am_at in_wsL_law_r35 1 rfl) (am_cons (am_at in_wsL_law_r35 2 rfl) am_nil))))))
set_option maxRecDepth 20000 in
theorem mm_wsX8_ask : ∀ w ∈ wsX8_ask, w ∈ wsL_law := by
  unfold wsX8_ask
  exact am_cons (am_at in_wsL_law_r34 23 rfl) (am_app (am_app mm_wsX8_ask_r1 (am_app mm_wsX8_ask_r2 mm_wsX8_ask_r3)) in_wsX80)
set_option maxRecDepth 20000 in
theorem ggL_law_X8_ask : GoodIn wsL_law wsX8_ask := goodIn_m mm_wsX8_ask (by decide +kernel)
theorem gL_law_X8_ask : GoodIn wsL_law (wsV RL 116 RX8 yX8_ask wsX8_ask) := goodIn_app (goodIn_m (am_cons (am_at in_wsL_law_r34 20 rfl) (am_cons (am_at in_wsL_law_r34 21 rfl) (am_cons (am_at in_wsL_law_r34 22 rfl) (am_cons (am_at in_wsL_law_r1 5 rfl) am_nil)))) (by decide +kernel)) ggL_law_X8_ask
set_option maxRecDepth 20000 in
theorem mm_wsX7_write : ∀ w ∈ wsX7_write, w ∈ wsL_law := by
  unfold wsX7_write
  exact am_cons (am_at in_wsL_law_r35 6 rfl) (am_app (am_cons (am_at in_wsL_law_r5 17 rfl) (am_cons (am_at in_wsL_law_r6 14 rfl) (am_cons (am_at in_wsL_law_r5 19 rfl) (am_cons (am_at in_wsL_law_r2 17 rfl) am_nil)))) in_wsX70)
set_option maxRecDepth 20000 in
theorem ggL_law_X7_write : GoodIn wsL_law wsX7_write := goodIn_m mm_wsX7_write (by decide +kernel)
theorem gL_law_X7_write : GoodIn wsL_law (wsV RL 117 RX7 yX7_write wsX7_write) := goodIn_app (goodIn_m (am_cons (am_at in_wsL_law_r35 3 rfl) (am_cons (am_at in_wsL_law_r35 4 rfl) (am_cons (am_at in_wsL_law_r35 5 rfl) (am_cons (am_at in_wsL_law_r1 2 rfl) am_nil)))) (by decide +kernel)) ggL_law_X7_write
set_option maxRecDepth 20000 in
theorem mm_wsX8_write : ∀ w ∈ wsX8_write, w ∈ wsL_law := by
  unfold wsX8_write
  exact am_cons (am_at in_wsL_law_r35 10 rfl) (am_app (am_cons (am_at in_wsL_law_r6 1 rfl) (am_cons (am_at in_wsL_law_r10 11 rfl) (am_cons (am_at in_wsL_law_r6 3 rfl) (am_cons (am_at in_wsL_law_r5 7 rfl) (am_cons (am_at in_wsL_law_r6 4 rfl) (am_cons (am_at in_wsL_law_r6 5 rfl) (am_cons (am_at in_wsL_law_r1 5 rfl) (am_cons (am_at in_wsL_law_r6 6 rfl) am_nil)))))))) in_wsX80)
set_option maxRecDepth 20000 in
theorem ggL_law_X8_write : GoodIn wsL_law wsX8_write := goodIn_m mm_wsX8_write (by decide +kernel)
theorem gL_law_X8_write : GoodIn wsL_law (wsV RL 120 RX8 yX8_write wsX8_write) := goodIn_app (goodIn_m (am_cons (am_at in_wsL_law_r35 7 rfl) (am_cons (am_at in_wsL_law_r35 8 rfl) (am_cons (am_at in_wsL_law_r35 9 rfl) (am_cons (am_at in_wsL_law_r1 5 rfl) am_nil)))) (by decide +kernel)) ggL_law_X8_write
