set_option maxRecDepth 20000 in
theorem mm_wsX7_tear : ∀ w ∈ wsX7_tear, w ∈ wsL_law := by
  unfold wsX7_tear
  exact am_cons (am_at in_wsL_law_r35 14 rfl) (am_app (am_app (am_cons (am_at in_wsL_law_r2 11 rfl) (am_cons (am_at in_wsL_law_r6 13 rfl) (am_cons (am_at in_wsL_law_r6 14 rfl) am_nil))) in_wsX70) in_wsX60)
set_option maxRecDepth 20000 in
theorem ggL_law_X7_tear : GoodIn wsL_law wsX7_tear := goodIn_m mm_wsX7_tear (by decide +kernel)
theorem gL_law_X7_tear : GoodIn wsL_law (wsV RL 121 RX7 yX7_tear wsX7_tear) := goodIn_app (goodIn_m (am_cons (am_at in_wsL_law_r35 11 rfl) (am_cons (am_at in_wsL_law_r35 12 rfl) (am_cons (am_at in_wsL_law_r35 13 rfl) (am_cons (am_at in_wsL_law_r1 2 rfl) am_nil)))) (by decide +kernel)) ggL_law_X7_tear
set_option maxRecDepth 20000 in
theorem mm_wsX8_tear : ∀ w ∈ wsX8_tear, w ∈ wsL_law := by
  unfold wsX8_tear
  exact am_cons (am_at in_wsL_law_r35 18 rfl) (am_app (am_cons (am_at in_wsL_law_r10 10 rfl) (am_cons (am_at in_wsL_law_r10 11 rfl) am_nil)) in_wsX80)
set_option maxRecDepth 20000 in
theorem ggL_law_X8_tear : GoodIn wsL_law wsX8_tear := goodIn_m mm_wsX8_tear (by decide +kernel)
theorem gL_law_X8_tear : GoodIn wsL_law (wsV RL 124 RX8 yX8_tear wsX8_tear) := goodIn_app (goodIn_m (am_cons (am_at in_wsL_law_r35 15 rfl) (am_cons (am_at in_wsL_law_r35 16 rfl) (am_cons (am_at in_wsL_law_r35 17 rfl) (am_cons (am_at in_wsL_law_r1 5 rfl) am_nil)))) (by decide +kernel)) ggL_law_X8_tear
set_option maxRecDepth 20000 in
theorem mm_wsX7_judge : ∀ w ∈ wsX7_judge, w ∈ wsL_law := by
  unfold wsX7_judge
  exact am_cons (am_at in_wsL_law_r35 22 rfl) (am_app (am_app (am_cons (am_at in_wsL_law_r6 14 rfl) (am_cons (am_at in_wsL_law_r2 17 rfl) (am_cons (am_at in_wsL_law_r1 19 rfl) (am_cons (am_at in_wsL_law_r12 21 rfl) am_nil)))) in_wsX70) in_wsX10)
set_option maxRecDepth 20000 in
theorem ggL_law_X7_judge : GoodIn wsL_law wsX7_judge := goodIn_m mm_wsX7_judge (by decide +kernel)
theorem gL_law_X7_judge : GoodIn wsL_law (wsV RL 125 RX7 yX7_judge wsX7_judge) := goodIn_app (goodIn_m (am_cons (am_at in_wsL_law_r35 19 rfl) (am_cons (am_at in_wsL_law_r35 20 rfl) (am_cons (am_at in_wsL_law_r35 21 rfl) (am_cons (am_at in_wsL_law_r1 2 rfl) am_nil)))) (by decide +kernel)) ggL_law_X7_judge
set_option maxRecDepth 20000 in
theorem mm_wsX8_judge : ∀ w ∈ wsX8_judge, w ∈ wsL_law := by
  unfold wsX8_judge
  exact am_cons (am_at in_wsL_law_r36 2 rfl) (am_app (am_cons (am_at in_wsL_law_r10 11 rfl) (am_cons (am_at in_wsL_law_r5 7 rfl) (am_cons (am_at in_wsL_law_r5 2 rfl) am_nil))) in_wsX80)
set_option maxRecDepth 20000 in
theorem ggL_law_X8_judge : GoodIn wsL_law wsX8_judge := goodIn_m mm_wsX8_judge (by decide +kernel)
theorem gL_law_X8_judge : GoodIn wsL_law (wsV RL 128 RX8 yX8_judge wsX8_judge) := goodIn_app (goodIn_m (am_cons (am_at in_wsL_law_r35 23 rfl) (am_cons (am_at in_wsL_law_r36 0 rfl) (am_cons (am_at in_wsL_law_r36 1 rfl) (am_cons (am_at in_wsL_law_r1 5 rfl) am_nil)))) (by decide +kernel)) ggL_law_X8_judge
set_option maxRecDepth 20000 in
theorem mm_wsX7_seed : ∀ w ∈ wsX7_seed, w ∈ wsL_law := by
  unfold wsX7_seed
  exact am_cons (am_at in_wsL_law_r36 6 rfl) (am_app (am_cons (am_at in_wsL_law_r5 17 rfl) (am_cons (am_at in_wsL_law_r20 12 rfl) am_nil)) in_wsX70)
set_option maxRecDepth 20000 in
theorem ggL_law_X7_seed : GoodIn wsL_law wsX7_seed := goodIn_m mm_wsX7_seed (by decide +kernel)
theorem gL_law_X7_seed : GoodIn wsL_law (wsV RL 129 RX7 yX7_seed wsX7_seed) := goodIn_app (goodIn_m (am_cons (am_at in_wsL_law_r36 3 rfl) (am_cons (am_at in_wsL_law_r36 4 rfl) (am_cons (am_at in_wsL_law_r36 5 rfl) (am_cons (am_at in_wsL_law_r1 2 rfl) am_nil)))) (by decide +kernel)) ggL_law_X7_seed
set_option maxRecDepth 20000 in
theorem mm_wsX8_seed : ∀ w ∈ wsX8_seed, w ∈ wsL_law := by
  unfold wsX8_seed
  exact am_cons (am_at in_wsL_law_r36 10 rfl) (am_app (am_cons (am_at in_wsL_law_r6 1 rfl) (am_cons (am_at in_wsL_law_r21 5 rfl) am_nil)) in_wsX80)
set_option maxRecDepth 20000 in
theorem ggL_law_X8_seed : GoodIn wsL_law wsX8_seed := goodIn_m mm_wsX8_seed (by decide +kernel)
theorem gL_law_X8_seed : GoodIn wsL_law (wsV RL 132 RX8 yX8_seed wsX8_seed) := goodIn_app (goodIn_m (am_cons (am_at in_wsL_law_r36 7 rfl) (am_cons (am_at in_wsL_law_r36 8 rfl) (am_cons (am_at in_wsL_law_r36 9 rfl) (am_cons (am_at in_wsL_law_r1 5 rfl) am_nil)))) (by decide +kernel)) ggL_law_X8_seed
set_option maxRecDepth 20000 in
theorem mm_wsX7_keep : ∀ w ∈ wsX7_keep, w ∈ wsL_law := by
  unfold wsX7_keep
  exact am_cons (am_at in_wsL_law_r36 14 rfl) (am_app (am_app (am_app (am_cons (am_at in_wsL_law_r13 9 rfl) (am_cons (am_at in_wsL_law_r2 12 rfl) (am_cons (am_at in_wsL_law_r1 19 rfl) (am_cons (am_at in_wsL_law_r2 14 rfl) (am_cons (am_at in_wsL_law_r20 12 rfl) (am_cons (am_at in_wsL_law_r2 16 rfl) (am_cons (am_at in_wsL_law_r1 23 rfl) (am_cons (am_at in_wsL_law_r6 12 rfl) (am_cons (am_at in_wsL_law_r36 15 rfl) (am_cons (am_at in_wsL_law_r16 9 rfl) (am_cons (am_at in_wsL_law_r16 10 rfl) (am_cons (am_at in_wsL_law_r1 18 rfl) (am_cons (am_at in_wsL_law_r16 11 rfl) (am_cons (am_at in_wsL_law_r9 20 rfl) (am_cons (am_at in_wsL_law_r9 21 rfl) (am_cons (am_at in_wsL_law_r9 22 rfl) (am_cons (am_at in_wsL_law_r9 23 rfl) (am_cons (am_at in_wsL_law_r10 0 rfl) (am_cons (am_at in_wsL_law_r10 1 rfl) (am_cons (am_at in_wsL_law_r10 2 rfl) am_nil)))))))))))))))))))) in_wsX70) in_wsX20) in_wsX10)
set_option maxRecDepth 20000 in
theorem ggL_law_X7_keep : GoodIn wsL_law wsX7_keep := goodIn_m mm_wsX7_keep (by decide +kernel)
theorem gL_law_X7_keep : GoodIn wsL_law (wsV RL 133 RX7 yX7_keep wsX7_keep) := goodIn_app (goodIn_m (am_cons (am_at in_wsL_law_r36 11 rfl) (am_cons (am_at in_wsL_law_r36 12 rfl) (am_cons (am_at in_wsL_law_r36 13 rfl) (am_cons (am_at in_wsL_law_r1 2 rfl) am_nil)))) (by decide +kernel)) ggL_law_X7_keep
set_option maxRecDepth 20000 in
theorem mm_wsX8_keep : ∀ w ∈ wsX8_keep, w ∈ wsL_law := by
  unfold wsX8_keep
  exact am_cons (am_at in_wsL_law_r36 19 rfl) (am_app (am_cons (am_at in_wsL_law_r14 2 rfl) (am_cons (am_at in_wsL_law_r5 4 rfl) (am_cons (am_at in_wsL_law_r5 2 rfl) (am_cons (am_at in_wsL_law_r21 5 rfl) (am_cons (am_at in_wsL_law_r5 5 rfl) (am_cons (am_at in_wsL_law_r10 9 rfl) (am_cons (am_at in_wsL_law_r6 4 rfl) (am_cons (am_at in_wsL_law_r6 5 rfl) (am_cons (am_at in_wsL_law_r1 5 rfl) (am_cons (am_at in_wsL_law_r6 6 rfl) am_nil)))))))))) in_wsX80)
set_option maxRecDepth 20000 in
theorem ggL_law_X8_keep : GoodIn wsL_law wsX8_keep := goodIn_m mm_wsX8_keep (by decide +kernel)
theorem gL_law_X8_keep : GoodIn wsL_law (wsV RL 136 RX8 yX8_keep wsX8_keep) := goodIn_app (goodIn_m (am_cons (am_at in_wsL_law_r36 16 rfl) (am_cons (am_at in_wsL_law_r36 17 rfl) (am_cons (am_at in_wsL_law_r36 18 rfl) (am_cons (am_at in_wsL_law_r1 5 rfl) am_nil)))) (by decide +kernel)) ggL_law_X8_keep
set_option maxRecDepth 20000 in
theorem mm_wsX7_goBack : ∀ w ∈ wsX7_goBack, w ∈ wsL_law := by
  unfold wsX7_goBack
  exact am_cons (am_at in_wsL_law_r36 23 rfl) (am_app (am_app (am_app (am_cons (am_at in_wsL_law_r13 9 rfl) (am_cons (am_at in_wsL_law_r2 16 rfl) (am_cons (am_at in_wsL_law_r15 13 rfl) (am_cons (am_at in_wsL_law_r1 19 rfl) (am_cons (am_at in_wsL_law_r2 12 rfl) (am_cons (am_at in_wsL_law_r2 14 rfl) (am_cons (am_at in_wsL_law_r20 12 rfl) (am_cons (am_at in_wsL_law_r1 23 rfl) (am_cons (am_at in_wsL_law_r6 12 rfl) (am_cons (am_at in_wsL_law_r36 15 rfl) (am_cons (am_at in_wsL_law_r16 9 rfl) (am_cons (am_at in_wsL_law_r16 10 rfl) (am_cons (am_at in_wsL_law_r1 18 rfl) (am_cons (am_at in_wsL_law_r16 11 rfl) (am_cons (am_at in_wsL_law_r9 20 rfl) (am_cons (am_at in_wsL_law_r9 21 rfl) (am_cons (am_at in_wsL_law_r9 22 rfl) (am_cons (am_at in_wsL_law_r9 23 rfl) (am_cons (am_at in_wsL_law_r10 0 rfl) (am_cons (am_at in_wsL_law_r10 1 rfl) (am_cons (am_at in_wsL_law_r10 2 rfl) am_nil))))))))))))))))))))) in_wsX70) in_wsX20) in_wsX10)
set_option maxRecDepth 20000 in
theorem ggL_law_X7_goBack : GoodIn wsL_law wsX7_goBack := goodIn_m mm_wsX7_goBack (by decide +kernel)
theorem gL_law_X7_goBack : GoodIn wsL_law (wsV RL 137 RX7 yX7_goBack wsX7_goBack) := goodIn_app (goodIn_m (am_cons (am_at in_wsL_law_r36 20 rfl) (am_cons (am_at in_wsL_law_r36 21 rfl) (am_cons (am_at in_wsL_law_r36 22 rfl) (am_cons (am_at in_wsL_law_r1 2 rfl) am_nil)))) (by decide +kernel)) ggL_law_X7_goBack
set_option maxRecDepth 20000 in
theorem mm_wsX8_goBack : ∀ w ∈ wsX8_goBack, w ∈ wsL_law := by
  unfold wsX8_goBack
  exact am_cons (am_at in_wsL_law_r37 3 rfl) (am_app (am_cons (am_at in_wsL_law_r14 2 rfl) (am_cons (am_at in_wsL_law_r5 5 rfl) (am_cons (am_at in_wsL_law_r17 6 rfl) (am_cons (am_at in_wsL_law_r5 2 rfl) (am_cons (am_at in_wsL_law_r5 4 rfl) (am_cons (am_at in_wsL_law_r21 5 rfl) (am_cons (am_at in_wsL_law_r10 9 rfl) (am_cons (am_at in_wsL_law_r6 4 rfl) (am_cons (am_at in_wsL_law_r6 5 rfl) (am_cons (am_at in_wsL_law_r1 5 rfl) (am_cons (am_at in_wsL_law_r6 6 rfl) am_nil))))))))))) in_wsX80)
set_option maxRecDepth 20000 in
theorem ggL_law_X8_goBack : GoodIn wsL_law wsX8_goBack := goodIn_m mm_wsX8_goBack (by decide +kernel)
theorem gL_law_X8_goBack : GoodIn wsL_law (wsV RL 140 RX8 yX8_goBack wsX8_goBack) := goodIn_app (goodIn_m (am_cons (am_at in_wsL_law_r37 0 rfl) (am_cons (am_at in_wsL_law_r37 1 rfl) (am_cons (am_at in_wsL_law_r37 2 rfl) (am_cons (am_at in_wsL_law_r1 5 rfl) am_nil)))) (by decide +kernel)) ggL_law_X8_goBack
