set_option maxRecDepth 20000 in
theorem mm_wsX7_init_r1 : ∀ w ∈ wsX7_init_r1, w ∈ wsL_law := by
  unfold wsX7_init_r1
  exact (am_cons (am_at in_wsL_law_r1 9 rfl) (am_cons (am_at in_wsL_law_r1 10 rfl) (am_cons (am_at in_wsL_law_r1 11 rfl) (am_cons (am_at in_wsL_law_r1 12 rfl) (am_cons (am_at in_wsL_law_r1 13 rfl) (am_cons (am_at in_wsL_law_r1 14 rfl) (am_cons (am_at in_wsL_law_r1 15 rfl) (am_cons (am_at in_wsL_law_r1 16 rfl) (am_cons (am_at in_wsL_law_r1 17 rfl) (am_cons (am_at in_wsL_law_r1 18 rfl) (am_cons (am_at in_wsL_law_r1 19 rfl) (am_cons (am_at in_wsL_law_r1 20 rfl) (am_cons (am_at in_wsL_law_r1 21 rfl) (am_cons (am_at in_wsL_law_r1 22 rfl) (am_cons (am_at in_wsL_law_r1 23 rfl) (am_cons (am_at in_wsL_law_r2 0 rfl) (am_cons (am_at in_wsL_law_r2 1 rfl) (am_cons (am_at in_wsL_law_r2 2 rfl) (am_cons (am_at in_wsL_law_r2 3 rfl) (am_cons (am_at in_wsL_law_r2 4 rfl) (am_cons (am_at in_wsL_law_r2 5 rfl) (am_cons (am_at in_wsL_law_r2 6 rfl) (am_cons (am_at in_wsL_law_r2 7 rfl) (am_cons (am_at in_wsL_law_r2 8 rfl) am_nil))))))))))))))))))))))))
set_option maxRecDepth 20000 in
theorem mm_wsX7_init_r2 : ∀ w ∈ wsX7_init_r2, w ∈ wsL_law := by
  unfold wsX7_init_r2
  exact (am_cons (am_at in_wsL_law_r2 9 rfl) (am_cons (am_at in_wsL_law_r2 10 rfl) (am_cons (am_at in_wsL_law_r2 11 rfl) (am_cons (am_at in_wsL_law_r2 12 rfl) (am_cons (am_at in_wsL_law_r2 13 rfl) (am_cons (am_at in_wsL_law_r2 14 rfl) (am_cons (am_at in_wsL_law_r2 15 rfl) (am_cons (am_at in_wsL_law_r2 16 rfl) (am_cons (am_at in_wsL_law_r2 17 rfl) (am_cons (am_at in_wsL_law_r2 18 rfl) (am_cons (am_at in_wsL_law_r2 19 rfl) (am_cons (am_at in_wsL_law_r2 20 rfl) (am_cons (am_at in_wsL_law_r2 21 rfl) (am_cons (am_at in_wsL_law_r2 22 rfl) (am_cons (am_at in_wsL_law_r2 23 rfl) (am_cons (am_at in_wsL_law_r3 0 rfl) (am_cons (am_at in_wsL_law_r3 1 rfl) (am_cons (am_at in_wsL_law_r3 2 rfl) (am_cons (am_at in_wsL_law_r3 3 rfl) (am_cons (am_at in_wsL_law_r3 4 rfl) (am_cons (am_at in_wsL_law_r3 5 rfl) (am_cons (am_at in_wsL_law_r3 6 rfl) (am_cons (am_at in_wsL_law_r3 7 rfl) (am_cons (am_at in_wsL_law_r3 8 rfl) am_nil))))))))))))))))))))))))
set_option maxRecDepth 20000 in
theorem mm_wsX7_init_r3 : ∀ w ∈ wsX7_init_r3, w ∈ wsL_law := by
  unfold wsX7_init_r3
  exact (am_cons (am_at in_wsL_law_r3 9 rfl) (am_cons (am_at in_wsL_law_r3 10 rfl) (am_cons (am_at in_wsL_law_r3 11 rfl) (am_cons (am_at in_wsL_law_r3 12 rfl) (am_cons (am_at in_wsL_law_r3 13 rfl) (am_cons (am_at in_wsL_law_r3 14 rfl) (am_cons (am_at in_wsL_law_r3 15 rfl) (am_cons (am_at in_wsL_law_r3 16 rfl) (am_cons (am_at in_wsL_law_r3 17 rfl) (am_cons (am_at in_wsL_law_r3 18 rfl) (am_cons (am_at in_wsL_law_r3 19 rfl) (am_cons (am_at in_wsL_law_r3 20 rfl) (am_cons (am_at in_wsL_law_r3 21 rfl) (am_cons (am_at in_wsL_law_r3 22 rfl) (am_cons (am_at in_wsL_law_r3 23 rfl) (am_cons (am_at in_wsL_law_r4 0 rfl) (am_cons (am_at in_wsL_law_r4 1 rfl) (am_cons (am_at in_wsL_law_r4 2 rfl) (am_cons (am_at in_wsL_law_r4 3 rfl) (am_cons (am_at in_wsL_law_r4 4 rfl) (am_cons (am_at in_wsL_law_r4 5 rfl) (am_cons (am_at in_wsL_law_r4 6 rfl) (am_cons (am_at in_wsL_law_r4 7 rfl) (am_cons (am_at in_wsL_law_r4 8 rfl) am_nil))))))))))))))))))))))))
set_option maxRecDepth 20000 in
theorem mm_wsX7_init_r4 : ∀ w ∈ wsX7_init_r4, w ∈ wsL_law := by
  unfold wsX7_init_r4
  exact (am_cons (am_at in_wsL_law_r4 9 rfl) (am_cons (am_at in_wsL_law_r4 10 rfl) (am_cons (am_at in_wsL_law_r4 11 rfl) (am_cons (am_at in_wsL_law_r4 12 rfl) (am_cons (am_at in_wsL_law_r4 13 rfl) (am_cons (am_at in_wsL_law_r4 14 rfl) (am_cons (am_at in_wsL_law_r4 15 rfl) (am_cons (am_at in_wsL_law_r4 16 rfl) (am_cons (am_at in_wsL_law_r4 17 rfl) (am_cons (am_at in_wsL_law_r4 18 rfl) am_nil))))))))))
set_option maxRecDepth 20000 in
theorem mm_wsX7_init : ∀ w ∈ wsX7_init, w ∈ wsL_law := by
  unfold wsX7_init
  exact am_cons (am_at in_wsL_law_r1 8 rfl) (am_app (am_app (am_app (am_app (am_app (am_app (am_app (am_app (am_app mm_wsX7_init_r1 (am_app mm_wsX7_init_r2 (am_app mm_wsX7_init_r3 mm_wsX7_init_r4))) in_wsX50) in_wsX70) in_wsX10) in_wsX20) in_wsX30) in_wsX40) in_wsX60) in_wsX00)
set_option maxRecDepth 20000 in
theorem ggL_law_X7_init : GoodIn wsL_law wsX7_init := goodIn_m mm_wsX7_init (by decide +kernel)
theorem gL_law_X7_init : GoodIn wsL_law (wsX7_init) := ggL_law_X7_init
set_option maxRecDepth 20000 in
theorem mm_wsX8_init : ∀ w ∈ wsX8_init, w ∈ wsL_law := by
  unfold wsX8_init
  exact am_cons (am_at in_wsL_law_r4 21 rfl) (am_app (am_cons (am_at in_wsL_law_r4 22 rfl) (am_cons (am_at in_wsL_law_r1 10 rfl) (am_cons (am_at in_wsL_law_r1 11 rfl) (am_cons (am_at in_wsL_law_r2 13 rfl) (am_cons (am_at in_wsL_law_r4 23 rfl) (am_cons (am_at in_wsL_law_r5 0 rfl) (am_cons (am_at in_wsL_law_r5 1 rfl) (am_cons (am_at in_wsL_law_r5 2 rfl) (am_cons (am_at in_wsL_law_r5 3 rfl) (am_cons (am_at in_wsL_law_r5 4 rfl) (am_cons (am_at in_wsL_law_r2 15 rfl) (am_cons (am_at in_wsL_law_r5 5 rfl) (am_cons (am_at in_wsL_law_r5 6 rfl) (am_cons (am_at in_wsL_law_r5 7 rfl) (am_cons (am_at in_wsL_law_r5 8 rfl) (am_cons (am_at in_wsL_law_r5 9 rfl) (am_cons (am_at in_wsL_law_r4 0 rfl) (am_cons (am_at in_wsL_law_r5 10 rfl) (am_cons (am_at in_wsL_law_r5 11 rfl) (am_cons (am_at in_wsL_law_r5 12 rfl) am_nil)))))))))))))))))))) in_wsX80)
set_option maxRecDepth 20000 in
theorem ggL_law_X8_init : GoodIn wsL_law wsX8_init := goodIn_m mm_wsX8_init (by decide +kernel)
theorem gL_law_X8_init : GoodIn wsL_law (wsX8_init) := ggL_law_X8_init
set_option maxRecDepth 20000 in
theorem mm_wsX7_feed : ∀ w ∈ wsX7_feed, w ∈ wsL_law := by
  unfold wsX7_feed
  exact am_cons (am_at in_wsL_law_r5 16 rfl) (am_app (am_app (am_cons (am_at in_wsL_law_r5 17 rfl) (am_cons (am_at in_wsL_law_r1 15 rfl) (am_cons (am_at in_wsL_law_r5 18 rfl) (am_cons (am_at in_wsL_law_r5 19 rfl) (am_cons (am_at in_wsL_law_r5 20 rfl) am_nil))))) in_wsX70) in_wsX50)
set_option maxRecDepth 20000 in
theorem ggL_law_X7_feed : GoodIn wsL_law wsX7_feed := goodIn_m mm_wsX7_feed (by decide +kernel)
theorem gL_law_X7_feed : GoodIn wsL_law (wsV RL 13 RX7 yX7_feed wsX7_feed) := goodIn_app (goodIn_m (am_cons (am_at in_wsL_law_r5 13 rfl) (am_cons (am_at in_wsL_law_r5 14 rfl) (am_cons (am_at in_wsL_law_r5 15 rfl) (am_cons (am_at in_wsL_law_r1 2 rfl) am_nil)))) (by decide +kernel)) ggL_law_X7_feed
set_option maxRecDepth 20000 in
theorem mm_wsX8_feed : ∀ w ∈ wsX8_feed, w ∈ wsL_law := by
  unfold wsX8_feed
  exact am_cons (am_at in_wsL_law_r6 0 rfl) (am_app (am_cons (am_at in_wsL_law_r6 1 rfl) (am_cons (am_at in_wsL_law_r6 2 rfl) (am_cons (am_at in_wsL_law_r6 3 rfl) (am_cons (am_at in_wsL_law_r4 23 rfl) (am_cons (am_at in_wsL_law_r6 4 rfl) (am_cons (am_at in_wsL_law_r6 5 rfl) (am_cons (am_at in_wsL_law_r1 5 rfl) (am_cons (am_at in_wsL_law_r6 6 rfl) am_nil)))))))) in_wsX80)
set_option maxRecDepth 20000 in
theorem ggL_law_X8_feed : GoodIn wsL_law wsX8_feed := goodIn_m mm_wsX8_feed (by decide +kernel)
theorem gL_law_X8_feed : GoodIn wsL_law (wsV RL 17 RX8 yX8_feed wsX8_feed) := goodIn_app (goodIn_m (am_cons (am_at in_wsL_law_r5 21 rfl) (am_cons (am_at in_wsL_law_r5 22 rfl) (am_cons (am_at in_wsL_law_r5 23 rfl) (am_cons (am_at in_wsL_law_r1 5 rfl) am_nil)))) (by decide +kernel)) ggL_law_X8_feed
set_option maxRecDepth 20000 in
theorem mm_wsX7_land_r1 : ∀ w ∈ wsX7_land_r1, w ∈ wsL_law := by
  unfold wsX7_land_r1
  exact (am_cons (am_at in_wsL_law_r1 15 rfl) (am_cons (am_at in_wsL_law_r2 23 rfl) (am_cons (am_at in_wsL_law_r6 11 rfl) (am_cons (am_at in_wsL_law_r2 22 rfl) (am_cons (am_at in_wsL_law_r1 19 rfl) (am_cons (am_at in_wsL_law_r1 23 rfl) (am_cons (am_at in_wsL_law_r6 12 rfl) (am_cons (am_at in_wsL_law_r2 11 rfl) (am_cons (am_at in_wsL_law_r6 13 rfl) (am_cons (am_at in_wsL_law_r6 14 rfl) (am_cons (am_at in_wsL_law_r2 16 rfl) (am_cons (am_at in_wsL_law_r6 15 rfl) (am_cons (am_at in_wsL_law_r6 16 rfl) (am_cons (am_at in_wsL_law_r6 17 rfl) (am_cons (am_at in_wsL_law_r6 18 rfl) (am_cons (am_at in_wsL_law_r1 14 rfl) (am_cons (am_at in_wsL_law_r6 19 rfl) (am_cons (am_at in_wsL_law_r6 20 rfl) (am_cons (am_at in_wsL_law_r6 21 rfl) (am_cons (am_at in_wsL_law_r3 5 rfl) (am_cons (am_at in_wsL_law_r6 22 rfl) (am_cons (am_at in_wsL_law_r6 23 rfl) (am_cons (am_at in_wsL_law_r7 0 rfl) (am_cons (am_at in_wsL_law_r7 1 rfl) am_nil))))))))))))))))))))))))
set_option maxRecDepth 20000 in
theorem mm_wsX7_land_r2 : ∀ w ∈ wsX7_land_r2, w ∈ wsL_law := by
  unfold wsX7_land_r2
  exact (am_cons (am_at in_wsL_law_r2 21 rfl) (am_cons (am_at in_wsL_law_r7 2 rfl) (am_cons (am_at in_wsL_law_r7 3 rfl) (am_cons (am_at in_wsL_law_r7 4 rfl) (am_cons (am_at in_wsL_law_r7 5 rfl) (am_cons (am_at in_wsL_law_r7 6 rfl) (am_cons (am_at in_wsL_law_r7 7 rfl) (am_cons (am_at in_wsL_law_r7 8 rfl) (am_cons (am_at in_wsL_law_r7 9 rfl) (am_cons (am_at in_wsL_law_r7 10 rfl) (am_cons (am_at in_wsL_law_r7 11 rfl) (am_cons (am_at in_wsL_law_r3 4 rfl) (am_cons (am_at in_wsL_law_r7 12 rfl) (am_cons (am_at in_wsL_law_r7 13 rfl) (am_cons (am_at in_wsL_law_r7 14 rfl) (am_cons (am_at in_wsL_law_r7 15 rfl) (am_cons (am_at in_wsL_law_r7 16 rfl) (am_cons (am_at in_wsL_law_r7 17 rfl) (am_cons (am_at in_wsL_law_r7 18 rfl) (am_cons (am_at in_wsL_law_r7 19 rfl) (am_cons (am_at in_wsL_law_r7 20 rfl) (am_cons (am_at in_wsL_law_r7 21 rfl) (am_cons (am_at in_wsL_law_r7 22 rfl) (am_cons (am_at in_wsL_law_r7 23 rfl) am_nil))))))))))))))))))))))))
set_option maxRecDepth 20000 in
theorem mm_wsX7_land_r3 : ∀ w ∈ wsX7_land_r3, w ∈ wsL_law := by
  unfold wsX7_land_r3
  exact (am_cons (am_at in_wsL_law_r8 0 rfl) (am_cons (am_at in_wsL_law_r8 1 rfl) (am_cons (am_at in_wsL_law_r8 2 rfl) (am_cons (am_at in_wsL_law_r8 3 rfl) (am_cons (am_at in_wsL_law_r8 4 rfl) (am_cons (am_at in_wsL_law_r8 5 rfl) (am_cons (am_at in_wsL_law_r8 6 rfl) (am_cons (am_at in_wsL_law_r8 7 rfl) (am_cons (am_at in_wsL_law_r8 8 rfl) (am_cons (am_at in_wsL_law_r8 9 rfl) (am_cons (am_at in_wsL_law_r8 10 rfl) (am_cons (am_at in_wsL_law_r8 11 rfl) (am_cons (am_at in_wsL_law_r8 12 rfl) (am_cons (am_at in_wsL_law_r8 13 rfl) (am_cons (am_at in_wsL_law_r8 14 rfl) (am_cons (am_at in_wsL_law_r8 15 rfl) (am_cons (am_at in_wsL_law_r8 16 rfl) (am_cons (am_at in_wsL_law_r8 17 rfl) (am_cons (am_at in_wsL_law_r8 18 rfl) (am_cons (am_at in_wsL_law_r8 19 rfl) (am_cons (am_at in_wsL_law_r8 20 rfl) (am_cons (am_at in_wsL_law_r8 21 rfl) (am_cons (am_at in_wsL_law_r8 22 rfl) (am_cons (am_at in_wsL_law_r8 23 rfl) am_nil))))))))))))))))))))))))
set_option maxRecDepth 20000 in
theorem mm_wsX7_land_r4 : ∀ w ∈ wsX7_land_r4, w ∈ wsL_law := by
  unfold wsX7_land_r4
  exact (am_cons (am_at in_wsL_law_r9 0 rfl) (am_cons (am_at in_wsL_law_r9 1 rfl) (am_cons (am_at in_wsL_law_r9 2 rfl) (am_cons (am_at in_wsL_law_r9 3 rfl) (am_cons (am_at in_wsL_law_r4 14 rfl) (am_cons (am_at in_wsL_law_r4 15 rfl) (am_cons (am_at in_wsL_law_r4 16 rfl) (am_cons (am_at in_wsL_law_r9 4 rfl) (am_cons (am_at in_wsL_law_r9 5 rfl) (am_cons (am_at in_wsL_law_r9 6 rfl) (am_cons (am_at in_wsL_law_r9 7 rfl) (am_cons (am_at in_wsL_law_r9 8 rfl) (am_cons (am_at in_wsL_law_r9 9 rfl) (am_cons (am_at in_wsL_law_r9 10 rfl) (am_cons (am_at in_wsL_law_r9 11 rfl) (am_cons (am_at in_wsL_law_r4 17 rfl) (am_cons (am_at in_wsL_law_r4 18 rfl) (am_cons (am_at in_wsL_law_r9 12 rfl) (am_cons (am_at in_wsL_law_r9 13 rfl) (am_cons (am_at in_wsL_law_r9 14 rfl) (am_cons (am_at in_wsL_law_r9 15 rfl) (am_cons (am_at in_wsL_law_r9 16 rfl) (am_cons (am_at in_wsL_law_r9 17 rfl) (am_cons (am_at in_wsL_law_r9 18 rfl) am_nil))))))))))))))))))))))))
set_option maxRecDepth 20000 in
theorem mm_wsX7_land_r5 : ∀ w ∈ wsX7_land_r5, w ∈ wsL_law := by
  unfold wsX7_land_r5
  exact (am_cons (am_at in_wsL_law_r1 18 rfl) (am_cons (am_at in_wsL_law_r9 19 rfl) (am_cons (am_at in_wsL_law_r9 20 rfl) (am_cons (am_at in_wsL_law_r9 21 rfl) (am_cons (am_at in_wsL_law_r9 22 rfl) (am_cons (am_at in_wsL_law_r9 23 rfl) (am_cons (am_at in_wsL_law_r10 0 rfl) (am_cons (am_at in_wsL_law_r10 1 rfl) (am_cons (am_at in_wsL_law_r10 2 rfl) am_nil)))))))))
set_option maxRecDepth 20000 in
theorem mm_wsX7_land : ∀ w ∈ wsX7_land, w ∈ wsL_law := by
  unfold wsX7_land
  exact am_cons (am_at in_wsL_law_r6 10 rfl) (am_app (am_app (am_app (am_app (am_app (am_app (am_app mm_wsX7_land_r1 (am_app mm_wsX7_land_r2 (am_app mm_wsX7_land_r3 (am_app mm_wsX7_land_r4 mm_wsX7_land_r5)))) in_wsX70) in_wsX50) in_wsX20) in_wsX60) in_wsX00) in_wsX10)
set_option maxRecDepth 20000 in
theorem ggL_law_X7_land : GoodIn wsL_law wsX7_land := goodIn_m mm_wsX7_land (by decide +kernel)
theorem gL_law_X7_land : GoodIn wsL_law (wsV RL 18 RX7 yX7_land wsX7_land) := goodIn_app (goodIn_m (am_cons (am_at in_wsL_law_r6 7 rfl) (am_cons (am_at in_wsL_law_r6 8 rfl) (am_cons (am_at in_wsL_law_r6 9 rfl) (am_cons (am_at in_wsL_law_r1 2 rfl) am_nil)))) (by decide +kernel)) ggL_law_X7_land
set_option maxRecDepth 20000 in
theorem mm_wsX8_land_r1 : ∀ w ∈ wsX8_land_r1, w ∈ wsL_law := by
  unfold wsX8_land_r1
  exact (am_cons (am_at in_wsL_law_r6 2 rfl) (am_cons (am_at in_wsL_law_r10 7 rfl) (am_cons (am_at in_wsL_law_r5 8 rfl) (am_cons (am_at in_wsL_law_r10 8 rfl) (am_cons (am_at in_wsL_law_r5 0 rfl) (am_cons (am_at in_wsL_law_r5 1 rfl) (am_cons (am_at in_wsL_law_r5 2 rfl) (am_cons (am_at in_wsL_law_r10 9 rfl) (am_cons (am_at in_wsL_law_r10 10 rfl) (am_cons (am_at in_wsL_law_r10 11 rfl) (am_cons (am_at in_wsL_law_r5 5 rfl) (am_cons (am_at in_wsL_law_r10 12 rfl) (am_cons (am_at in_wsL_law_r10 13 rfl) (am_cons (am_at in_wsL_law_r10 14 rfl) (am_cons (am_at in_wsL_law_r1 5 rfl) (am_cons (am_at in_wsL_law_r10 15 rfl) (am_cons (am_at in_wsL_law_r10 16 rfl) (am_cons (am_at in_wsL_law_r10 17 rfl) (am_cons (am_at in_wsL_law_r10 18 rfl) (am_cons (am_at in_wsL_law_r10 19 rfl) (am_cons (am_at in_wsL_law_r4 23 rfl) (am_cons (am_at in_wsL_law_r10 20 rfl) (am_cons (am_at in_wsL_law_r10 21 rfl) (am_cons (am_at in_wsL_law_r10 22 rfl) am_nil))))))))))))))))))))))))
set_option maxRecDepth 20000 in
theorem mm_wsX8_land_r2 : ∀ w ∈ wsX8_land_r2, w ∈ wsL_law := by
  unfold wsX8_land_r2
  exact (am_cons (am_at in_wsL_law_r10 23 rfl) (am_cons (am_at in_wsL_law_r11 0 rfl) (am_cons (am_at in_wsL_law_r11 1 rfl) (am_cons (am_at in_wsL_law_r11 2 rfl) (am_cons (am_at in_wsL_law_r11 3 rfl) (am_cons (am_at in_wsL_law_r11 4 rfl) (am_cons (am_at in_wsL_law_r11 5 rfl) (am_cons (am_at in_wsL_law_r11 6 rfl) (am_cons (am_at in_wsL_law_r11 7 rfl) (am_cons (am_at in_wsL_law_r11 8 rfl) (am_cons (am_at in_wsL_law_r11 9 rfl) (am_cons (am_at in_wsL_law_r11 10 rfl) (am_cons (am_at in_wsL_law_r11 11 rfl) (am_cons (am_at in_wsL_law_r11 12 rfl) (am_cons (am_at in_wsL_law_r11 13 rfl) (am_cons (am_at in_wsL_law_r6 4 rfl) (am_cons (am_at in_wsL_law_r6 5 rfl) (am_cons (am_at in_wsL_law_r6 6 rfl) (am_cons (am_at in_wsL_law_r11 14 rfl) (am_cons (am_at in_wsL_law_r11 15 rfl) (am_cons (am_at in_wsL_law_r11 16 rfl) (am_cons (am_at in_wsL_law_r11 17 rfl) (am_cons (am_at in_wsL_law_r11 18 rfl) (am_cons (am_at in_wsL_law_r11 19 rfl) am_nil))))))))))))))))))))))))
set_option maxRecDepth 20000 in
theorem mm_wsX8_land_r3 : ∀ w ∈ wsX8_land_r3, w ∈ wsL_law := by
  unfold wsX8_land_r3
  exact (am_cons (am_at in_wsL_law_r11 20 rfl) (am_cons (am_at in_wsL_law_r11 21 rfl) (am_cons (am_at in_wsL_law_r11 22 rfl) (am_cons (am_at in_wsL_law_r11 23 rfl) (am_cons (am_at in_wsL_law_r12 0 rfl) (am_cons (am_at in_wsL_law_r12 1 rfl) am_nil))))))
set_option maxRecDepth 20000 in
theorem mm_wsX8_land : ∀ w ∈ wsX8_land, w ∈ wsL_law := by
  unfold wsX8_land
  exact am_cons (am_at in_wsL_law_r10 6 rfl) (am_app (am_app mm_wsX8_land_r1 (am_app mm_wsX8_land_r2 mm_wsX8_land_r3)) in_wsX80)
set_option maxRecDepth 20000 in
theorem ggL_law_X8_land : GoodIn wsL_law wsX8_land := goodIn_m mm_wsX8_land (by decide +kernel)
theorem gL_law_X8_land : GoodIn wsL_law (wsV RL 22 RX8 yX8_land wsX8_land) := goodIn_app (goodIn_m (am_cons (am_at in_wsL_law_r10 3 rfl) (am_cons (am_at in_wsL_law_r10 4 rfl) (am_cons (am_at in_wsL_law_r10 5 rfl) (am_cons (am_at in_wsL_law_r1 5 rfl) am_nil)))) (by decide +kernel)) ggL_law_X8_land
set_option maxRecDepth 20000 in
theorem mm_wsX7_fault : ∀ w ∈ wsX7_fault, w ∈ wsL_law := by
  unfold wsX7_fault
  exact am_cons (am_at in_wsL_law_r12 5 rfl) (am_app (am_app (am_cons (am_at in_wsL_law_r1 15 rfl) (am_cons (am_at in_wsL_law_r12 6 rfl) am_nil)) in_wsX70) in_wsX50)
set_option maxRecDepth 20000 in
theorem ggL_law_X7_fault : GoodIn wsL_law wsX7_fault := goodIn_m mm_wsX7_fault (by decide +kernel)
theorem gL_law_X7_fault : GoodIn wsL_law (wsV RL 23 RX7 yX7_fault wsX7_fault) := goodIn_app (goodIn_m (am_cons (am_at in_wsL_law_r12 2 rfl) (am_cons (am_at in_wsL_law_r12 3 rfl) (am_cons (am_at in_wsL_law_r12 4 rfl) (am_cons (am_at in_wsL_law_r1 2 rfl) am_nil)))) (by decide +kernel)) ggL_law_X7_fault
set_option maxRecDepth 20000 in
theorem mm_wsX8_fault : ∀ w ∈ wsX8_fault, w ∈ wsL_law := by
  unfold wsX8_fault
  exact am_cons (am_at in_wsL_law_r12 10 rfl) (am_app (am_cons (am_at in_wsL_law_r5 8 rfl) am_nil) in_wsX80)
set_option maxRecDepth 20000 in
theorem ggL_law_X8_fault : GoodIn wsL_law wsX8_fault := goodIn_m mm_wsX8_fault (by decide +kernel)
theorem gL_law_X8_fault : GoodIn wsL_law (wsV RL 26 RX8 yX8_fault wsX8_fault) := goodIn_app (goodIn_m (am_cons (am_at in_wsL_law_r12 7 rfl) (am_cons (am_at in_wsL_law_r12 8 rfl) (am_cons (am_at in_wsL_law_r12 9 rfl) (am_cons (am_at in_wsL_law_r1 5 rfl) am_nil)))) (by decide +kernel)) ggL_law_X8_fault
set_option maxRecDepth 20000 in
theorem mm_wsX7_told : ∀ w ∈ wsX7_told, w ∈ wsL_law := by
  unfold wsX7_told
  exact am_cons (am_at in_wsL_law_r12 14 rfl) (am_app (am_app (am_app (am_app (am_app (am_app (am_cons (am_at in_wsL_law_r2 22 rfl) (am_cons (am_at in_wsL_law_r12 15 rfl) (am_cons (am_at in_wsL_law_r12 16 rfl) (am_cons (am_at in_wsL_law_r6 15 rfl) (am_cons (am_at in_wsL_law_r12 17 rfl) (am_cons (am_at in_wsL_law_r1 15 rfl) (am_cons (am_at in_wsL_law_r5 18 rfl) (am_cons (am_at in_wsL_law_r1 19 rfl) (am_cons (am_at in_wsL_law_r12 18 rfl) (am_cons (am_at in_wsL_law_r12 19 rfl) (am_cons (am_at in_wsL_law_r12 20 rfl) (am_cons (am_at in_wsL_law_r12 21 rfl) (am_cons (am_at in_wsL_law_r12 22 rfl) (am_cons (am_at in_wsL_law_r12 23 rfl) (am_cons (am_at in_wsL_law_r13 0 rfl) (am_cons (am_at in_wsL_law_r2 11 rfl) (am_cons (am_at in_wsL_law_r6 13 rfl) (am_cons (am_at in_wsL_law_r6 14 rfl) (am_cons (am_at in_wsL_law_r1 23 rfl) (am_cons (am_at in_wsL_law_r6 12 rfl) (am_cons (am_at in_wsL_law_r5 17 rfl) am_nil))))))))))))))))))))) in_wsX70) in_wsX00) in_wsX50) in_wsX10) in_wsX60) in_wsX20)
set_option maxRecDepth 20000 in
theorem ggL_law_X7_told : GoodIn wsL_law wsX7_told := goodIn_m mm_wsX7_told (by decide +kernel)
theorem gL_law_X7_told : GoodIn wsL_law (wsV RL 27 RX7 yX7_told wsX7_told) := goodIn_app (goodIn_m (am_cons (am_at in_wsL_law_r12 11 rfl) (am_cons (am_at in_wsL_law_r12 12 rfl) (am_cons (am_at in_wsL_law_r12 13 rfl) (am_cons (am_at in_wsL_law_r1 2 rfl) am_nil)))) (by decide +kernel)) ggL_law_X7_told
set_option maxRecDepth 20000 in
theorem mm_wsX8_told : ∀ w ∈ wsX8_told, w ∈ wsL_law := by
  unfold wsX8_told
  exact am_cons (am_at in_wsL_law_r13 4 rfl) (am_app (am_cons (am_at in_wsL_law_r5 0 rfl) (am_cons (am_at in_wsL_law_r6 2 rfl) (am_cons (am_at in_wsL_law_r5 2 rfl) (am_cons (am_at in_wsL_law_r10 10 rfl) (am_cons (am_at in_wsL_law_r10 11 rfl) (am_cons (am_at in_wsL_law_r10 9 rfl) (am_cons (am_at in_wsL_law_r6 1 rfl) am_nil))))))) in_wsX80)
set_option maxRecDepth 20000 in
theorem ggL_law_X8_told : GoodIn wsL_law wsX8_told := goodIn_m mm_wsX8_told (by decide +kernel)
theorem gL_law_X8_told : GoodIn wsL_law (wsV RL 30 RX8 yX8_told wsX8_told) := goodIn_app (goodIn_m (am_cons (am_at in_wsL_law_r13 1 rfl) (am_cons (am_at in_wsL_law_r13 2 rfl) (am_cons (am_at in_wsL_law_r13 3 rfl) (am_cons (am_at in_wsL_law_r1 5 rfl) am_nil)))) (by decide +kernel)) ggL_law_X8_told
set_option maxRecDepth 20000 in
theorem mm_wsX7_town : ∀ w ∈ wsX7_town, w ∈ wsL_law := by
  unfold wsX7_town
  exact am_cons (am_at in_wsL_law_r13 8 rfl) (am_app (am_app (am_cons (am_at in_wsL_law_r2 22 rfl) (am_cons (am_at in_wsL_law_r13 9 rfl) (am_cons (am_at in_wsL_law_r13 10 rfl) (am_cons (am_at in_wsL_law_r13 11 rfl) (am_cons (am_at in_wsL_law_r13 12 rfl) (am_cons (am_at in_wsL_law_r5 17 rfl) (am_cons (am_at in_wsL_law_r13 13 rfl) (am_cons (am_at in_wsL_law_r13 14 rfl) (am_cons (am_at in_wsL_law_r13 15 rfl) (am_cons (am_at in_wsL_law_r2 21 rfl) (am_cons (am_at in_wsL_law_r13 16 rfl) (am_cons (am_at in_wsL_law_r7 5 rfl) (am_cons (am_at in_wsL_law_r13 17 rfl) (am_cons (am_at in_wsL_law_r9 9 rfl) (am_cons (am_at in_wsL_law_r9 10 rfl) (am_cons (am_at in_wsL_law_r9 11 rfl) (am_cons (am_at in_wsL_law_r7 6 rfl) (am_cons (am_at in_wsL_law_r4 17 rfl) (am_cons (am_at in_wsL_law_r4 18 rfl) (am_cons (am_at in_wsL_law_r13 18 rfl) (am_cons (am_at in_wsL_law_r13 19 rfl) (am_cons (am_at in_wsL_law_r13 20 rfl) (am_cons (am_at in_wsL_law_r13 21 rfl) (am_cons (am_at in_wsL_law_r7 7 rfl) am_nil)))))))))))))))))))))))) in_wsX70) in_wsX00)
set_option maxRecDepth 20000 in
theorem ggL_law_X7_town : GoodIn wsL_law wsX7_town := goodIn_m mm_wsX7_town (by decide +kernel)
theorem gL_law_X7_town : GoodIn wsL_law (wsV RL 31 RX7 yX7_town wsX7_town) := goodIn_app (goodIn_m (am_cons (am_at in_wsL_law_r13 5 rfl) (am_cons (am_at in_wsL_law_r13 6 rfl) (am_cons (am_at in_wsL_law_r13 7 rfl) (am_cons (am_at in_wsL_law_r1 2 rfl) am_nil)))) (by decide +kernel)) ggL_law_X7_town
set_option maxRecDepth 20000 in
theorem mm_wsX8_town : ∀ w ∈ wsX8_town, w ∈ wsL_law := by
  unfold wsX8_town
  exact am_cons (am_at in_wsL_law_r14 1 rfl) (am_app (am_cons (am_at in_wsL_law_r14 2 rfl) (am_cons (am_at in_wsL_law_r5 0 rfl) (am_cons (am_at in_wsL_law_r6 1 rfl) (am_cons (am_at in_wsL_law_r14 3 rfl) (am_cons (am_at in_wsL_law_r14 4 rfl) (am_cons (am_at in_wsL_law_r14 5 rfl) (am_cons (am_at in_wsL_law_r1 5 rfl) (am_cons (am_at in_wsL_law_r14 6 rfl) (am_cons (am_at in_wsL_law_r6 4 rfl) (am_cons (am_at in_wsL_law_r6 5 rfl) (am_cons (am_at in_wsL_law_r6 6 rfl) (am_cons (am_at in_wsL_law_r14 7 rfl) (am_cons (am_at in_wsL_law_r14 8 rfl) (am_cons (am_at in_wsL_law_r14 9 rfl) (am_cons (am_at in_wsL_law_r14 10 rfl) (am_cons (am_at in_wsL_law_r14 11 rfl) (am_cons (am_at in_wsL_law_r14 12 rfl) (am_cons (am_at in_wsL_law_r14 13 rfl) (am_cons (am_at in_wsL_law_r14 14 rfl) am_nil))))))))))))))))))) in_wsX80)
set_option maxRecDepth 20000 in
theorem ggL_law_X8_town : GoodIn wsL_law wsX8_town := goodIn_m mm_wsX8_town (by decide +kernel)
theorem gL_law_X8_town : GoodIn wsL_law (wsV RL 35 RX8 yX8_town wsX8_town) := goodIn_app (goodIn_m (am_cons (am_at in_wsL_law_r13 22 rfl) (am_cons (am_at in_wsL_law_r13 23 rfl) (am_cons (am_at in_wsL_law_r14 0 rfl) (am_cons (am_at in_wsL_law_r1 5 rfl) am_nil)))) (by decide +kernel)) ggL_law_X8_town
set_option maxRecDepth 20000 in
theorem mm_wsX7_road : ∀ w ∈ wsX7_road, w ∈ wsL_law := by
  unfold wsX7_road
  exact am_cons (am_at in_wsL_law_r14 18 rfl) (am_app (am_app (am_app (am_cons (am_at in_wsL_law_r2 22 rfl) (am_cons (am_at in_wsL_law_r13 9 rfl) (am_cons (am_at in_wsL_law_r14 19 rfl) (am_cons (am_at in_wsL_law_r14 20 rfl) (am_cons (am_at in_wsL_law_r1 19 rfl) (am_cons (am_at in_wsL_law_r12 23 rfl) (am_cons (am_at in_wsL_law_r5 17 rfl) (am_cons (am_at in_wsL_law_r14 21 rfl) (am_cons (am_at in_wsL_law_r14 22 rfl) (am_cons (am_at in_wsL_law_r14 23 rfl) (am_cons (am_at in_wsL_law_r2 21 rfl) (am_cons (am_at in_wsL_law_r15 0 rfl) (am_cons (am_at in_wsL_law_r7 6 rfl) am_nil))))))))))))) in_wsX70) in_wsX00) in_wsX10)
set_option maxRecDepth 20000 in
theorem ggL_law_X7_road : GoodIn wsL_law wsX7_road := goodIn_m mm_wsX7_road (by decide +kernel)
theorem gL_law_X7_road : GoodIn wsL_law (wsV RL 36 RX7 yX7_road wsX7_road) := goodIn_app (goodIn_m (am_cons (am_at in_wsL_law_r14 15 rfl) (am_cons (am_at in_wsL_law_r14 16 rfl) (am_cons (am_at in_wsL_law_r14 17 rfl) (am_cons (am_at in_wsL_law_r1 2 rfl) am_nil)))) (by decide +kernel)) ggL_law_X7_road
set_option maxRecDepth 20000 in
theorem mm_wsX8_road : ∀ w ∈ wsX8_road, w ∈ wsL_law := by
  unfold wsX8_road
  exact am_cons (am_at in_wsL_law_r15 4 rfl) (am_app (am_cons (am_at in_wsL_law_r14 2 rfl) (am_cons (am_at in_wsL_law_r5 0 rfl) (am_cons (am_at in_wsL_law_r5 2 rfl) (am_cons (am_at in_wsL_law_r6 1 rfl) (am_cons (am_at in_wsL_law_r15 5 rfl) (am_cons (am_at in_wsL_law_r15 6 rfl) (am_cons (am_at in_wsL_law_r15 7 rfl) (am_cons (am_at in_wsL_law_r1 5 rfl) (am_cons (am_at in_wsL_law_r15 8 rfl) (am_cons (am_at in_wsL_law_r6 4 rfl) (am_cons (am_at in_wsL_law_r6 5 rfl) (am_cons (am_at in_wsL_law_r6 6 rfl) am_nil)))))))))))) in_wsX80)
set_option maxRecDepth 20000 in
theorem ggL_law_X8_road : GoodIn wsL_law wsX8_road := goodIn_m mm_wsX8_road (by decide +kernel)
theorem gL_law_X8_road : GoodIn wsL_law (wsV RL 39 RX8 yX8_road wsX8_road) := goodIn_app (goodIn_m (am_cons (am_at in_wsL_law_r15 1 rfl) (am_cons (am_at in_wsL_law_r15 2 rfl) (am_cons (am_at in_wsL_law_r15 3 rfl) (am_cons (am_at in_wsL_law_r1 5 rfl) am_nil)))) (by decide +kernel)) ggL_law_X8_road
set_option maxRecDepth 20000 in
theorem mm_wsX7_stay_r1 : ∀ w ∈ wsX7_stay_r1, w ∈ wsL_law := by
  unfold wsX7_stay_r1
  exact (am_cons (am_at in_wsL_law_r1 19 rfl) (am_cons (am_at in_wsL_law_r2 22 rfl) (am_cons (am_at in_wsL_law_r15 13 rfl) (am_cons (am_at in_wsL_law_r12 18 rfl) (am_cons (am_at in_wsL_law_r5 19 rfl) (am_cons (am_at in_wsL_law_r1 23 rfl) (am_cons (am_at in_wsL_law_r15 14 rfl) (am_cons (am_at in_wsL_law_r15 15 rfl) (am_cons (am_at in_wsL_law_r15 16 rfl) (am_cons (am_at in_wsL_law_r1 2 rfl) (am_cons (am_at in_wsL_law_r15 17 rfl) (am_cons (am_at in_wsL_law_r6 15 rfl) (am_cons (am_at in_wsL_law_r13 0 rfl) (am_cons (am_at in_wsL_law_r15 18 rfl) (am_cons (am_at in_wsL_law_r15 19 rfl) (am_cons (am_at in_wsL_law_r15 20 rfl) (am_cons (am_at in_wsL_law_r1 18 rfl) (am_cons (am_at in_wsL_law_r15 21 rfl) (am_cons (am_at in_wsL_law_r9 22 rfl) (am_cons (am_at in_wsL_law_r15 22 rfl) (am_cons (am_at in_wsL_law_r15 23 rfl) (am_cons (am_at in_wsL_law_r16 0 rfl) (am_cons (am_at in_wsL_law_r16 1 rfl) (am_cons (am_at in_wsL_law_r1 22 rfl) am_nil))))))))))))))))))))))))
set_option maxRecDepth 20000 in
theorem mm_wsX7_stay_r2 : ∀ w ∈ wsX7_stay_r2, w ∈ wsL_law := by
  unfold wsX7_stay_r2
  exact (am_cons (am_at in_wsL_law_r16 2 rfl) (am_cons (am_at in_wsL_law_r16 3 rfl) (am_cons (am_at in_wsL_law_r3 14 rfl) (am_cons (am_at in_wsL_law_r16 4 rfl) (am_cons (am_at in_wsL_law_r16 5 rfl) (am_cons (am_at in_wsL_law_r16 6 rfl) (am_cons (am_at in_wsL_law_r16 7 rfl) (am_cons (am_at in_wsL_law_r16 8 rfl) (am_cons (am_at in_wsL_law_r16 9 rfl) (am_cons (am_at in_wsL_law_r16 10 rfl) (am_cons (am_at in_wsL_law_r16 11 rfl) (am_cons (am_at in_wsL_law_r9 20 rfl) (am_cons (am_at in_wsL_law_r9 21 rfl) (am_cons (am_at in_wsL_law_r9 23 rfl) (am_cons (am_at in_wsL_law_r10 0 rfl) (am_cons (am_at in_wsL_law_r10 1 rfl) (am_cons (am_at in_wsL_law_r10 2 rfl) (am_cons (am_at in_wsL_law_r16 12 rfl) (am_cons (am_at in_wsL_law_r16 13 rfl) (am_cons (am_at in_wsL_law_r16 14 rfl) (am_cons (am_at in_wsL_law_r16 15 rfl) (am_cons (am_at in_wsL_law_r16 16 rfl) (am_cons (am_at in_wsL_law_r16 17 rfl) (am_cons (am_at in_wsL_law_r16 18 rfl) am_nil))))))))))))))))))))))))
set_option maxRecDepth 20000 in
theorem mm_wsX7_stay_r3 : ∀ w ∈ wsX7_stay_r3, w ∈ wsL_law := by
  unfold wsX7_stay_r3
  exact (am_cons (am_at in_wsL_law_r2 21 rfl) (am_cons (am_at in_wsL_law_r16 19 rfl) (am_cons (am_at in_wsL_law_r4 16 rfl) (am_cons (am_at in_wsL_law_r16 20 rfl) (am_cons (am_at in_wsL_law_r16 21 rfl) (am_cons (am_at in_wsL_law_r16 22 rfl) (am_cons (am_at in_wsL_law_r16 23 rfl) (am_cons (am_at in_wsL_law_r4 15 rfl) (am_cons (am_at in_wsL_law_r7 4 rfl) (am_cons (am_at in_wsL_law_r17 0 rfl) (am_cons (am_at in_wsL_law_r13 14 rfl) (am_cons (am_at in_wsL_law_r13 15 rfl) (am_cons (am_at in_wsL_law_r13 16 rfl) (am_cons (am_at in_wsL_law_r7 5 rfl) (am_cons (am_at in_wsL_law_r17 1 rfl) am_nil)))))))))))))))
set_option maxRecDepth 20000 in
theorem mm_wsX7_stay : ∀ w ∈ wsX7_stay, w ∈ wsL_law := by
  unfold wsX7_stay
  exact am_cons (am_at in_wsL_law_r15 12 rfl) (am_app (am_app (am_app (am_app (am_app mm_wsX7_stay_r1 (am_app mm_wsX7_stay_r2 mm_wsX7_stay_r3)) in_wsX70) in_wsX10) in_wsX00) in_wsX20)
set_option maxRecDepth 20000 in
theorem ggL_law_X7_stay : GoodIn wsL_law wsX7_stay := goodIn_m mm_wsX7_stay (by decide +kernel)
theorem gL_law_X7_stay : GoodIn wsL_law (wsV RL 40 RX7 yX7_stay wsX7_stay) := goodIn_app (goodIn_m (am_cons (am_at in_wsL_law_r15 9 rfl) (am_cons (am_at in_wsL_law_r15 10 rfl) (am_cons (am_at in_wsL_law_r15 11 rfl) (am_cons (am_at in_wsL_law_r1 2 rfl) am_nil)))) (by decide +kernel)) ggL_law_X7_stay
set_option maxRecDepth 20000 in
theorem mm_wsX8_stay_r1 : ∀ w ∈ wsX8_stay_r1, w ∈ wsL_law := by
  unfold wsX8_stay_r1
  exact (am_cons (am_at in_wsL_law_r17 6 rfl) (am_cons (am_at in_wsL_law_r5 2 rfl) (am_cons (am_at in_wsL_law_r6 3 rfl) (am_cons (am_at in_wsL_law_r17 7 rfl) (am_cons (am_at in_wsL_law_r17 8 rfl) (am_cons (am_at in_wsL_law_r17 9 rfl) (am_cons (am_at in_wsL_law_r1 5 rfl) (am_cons (am_at in_wsL_law_r17 10 rfl) (am_cons (am_at in_wsL_law_r5 0 rfl) (am_cons (am_at in_wsL_law_r17 11 rfl) (am_cons (am_at in_wsL_law_r17 12 rfl) (am_cons (am_at in_wsL_law_r17 13 rfl) (am_cons (am_at in_wsL_law_r17 14 rfl) (am_cons (am_at in_wsL_law_r17 15 rfl) (am_cons (am_at in_wsL_law_r17 16 rfl) (am_cons (am_at in_wsL_law_r17 17 rfl) (am_cons (am_at in_wsL_law_r17 18 rfl) (am_cons (am_at in_wsL_law_r10 9 rfl) (am_cons (am_at in_wsL_law_r5 3 rfl) (am_cons (am_at in_wsL_law_r17 19 rfl) (am_cons (am_at in_wsL_law_r17 20 rfl) (am_cons (am_at in_wsL_law_r17 21 rfl) (am_cons (am_at in_wsL_law_r17 22 rfl) (am_cons (am_at in_wsL_law_r17 23 rfl) am_nil))))))))))))))))))))))))
set_option maxRecDepth 20000 in
theorem mm_wsX8_stay_r2 : ∀ w ∈ wsX8_stay_r2, w ∈ wsL_law := by
  unfold wsX8_stay_r2
  exact (am_cons (am_at in_wsL_law_r18 0 rfl) (am_cons (am_at in_wsL_law_r18 1 rfl) (am_cons (am_at in_wsL_law_r18 2 rfl) am_nil)))
set_option maxRecDepth 20000 in
theorem mm_wsX8_stay : ∀ w ∈ wsX8_stay, w ∈ wsL_law := by
  unfold wsX8_stay
  exact am_cons (am_at in_wsL_law_r17 5 rfl) (am_app (am_app mm_wsX8_stay_r1 mm_wsX8_stay_r2) in_wsX80)
set_option maxRecDepth 20000 in
theorem ggL_law_X8_stay : GoodIn wsL_law wsX8_stay := goodIn_m mm_wsX8_stay (by decide +kernel)
theorem gL_law_X8_stay : GoodIn wsL_law (wsV RL 43 RX8 yX8_stay wsX8_stay) := goodIn_app (goodIn_m (am_cons (am_at in_wsL_law_r17 2 rfl) (am_cons (am_at in_wsL_law_r17 3 rfl) (am_cons (am_at in_wsL_law_r17 4 rfl) (am_cons (am_at in_wsL_law_r1 5 rfl) am_nil)))) (by decide +kernel)) ggL_law_X8_stay
set_option maxRecDepth 20000 in
theorem mm_wsX7_walk_r1 : ∀ w ∈ wsX7_walk_r1, w ∈ wsL_law := by
  unfold wsX7_walk_r1
  exact (am_cons (am_at in_wsL_law_r2 22 rfl) (am_cons (am_at in_wsL_law_r13 9 rfl) (am_cons (am_at in_wsL_law_r1 19 rfl) (am_cons (am_at in_wsL_law_r13 0 rfl) (am_cons (am_at in_wsL_law_r15 13 rfl) (am_cons (am_at in_wsL_law_r12 18 rfl) (am_cons (am_at in_wsL_law_r5 19 rfl) (am_cons (am_at in_wsL_law_r1 23 rfl) (am_cons (am_at in_wsL_law_r13 13 rfl) (am_cons (am_at in_wsL_law_r13 14 rfl) (am_cons (am_at in_wsL_law_r13 15 rfl) (am_cons (am_at in_wsL_law_r2 21 rfl) (am_cons (am_at in_wsL_law_r13 16 rfl) (am_cons (am_at in_wsL_law_r7 5 rfl) (am_cons (am_at in_wsL_law_r18 7 rfl) (am_cons (am_at in_wsL_law_r18 8 rfl) (am_cons (am_at in_wsL_law_r18 9 rfl) (am_cons (am_at in_wsL_law_r1 18 rfl) (am_cons (am_at in_wsL_law_r18 10 rfl) (am_cons (am_at in_wsL_law_r9 20 rfl) (am_cons (am_at in_wsL_law_r10 1 rfl) (am_cons (am_at in_wsL_law_r18 11 rfl) (am_cons (am_at in_wsL_law_r18 12 rfl) (am_cons (am_at in_wsL_law_r18 13 rfl) am_nil))))))))))))))))))))))))
set_option maxRecDepth 20000 in
theorem mm_wsX7_walk_r2 : ∀ w ∈ wsX7_walk_r2, w ∈ wsL_law := by
  unfold wsX7_walk_r2
  exact (am_cons (am_at in_wsL_law_r18 14 rfl) (am_cons (am_at in_wsL_law_r7 7 rfl) (am_cons (am_at in_wsL_law_r18 15 rfl) (am_cons (am_at in_wsL_law_r9 9 rfl) (am_cons (am_at in_wsL_law_r9 10 rfl) (am_cons (am_at in_wsL_law_r9 11 rfl) (am_cons (am_at in_wsL_law_r7 6 rfl) (am_cons (am_at in_wsL_law_r4 17 rfl) (am_cons (am_at in_wsL_law_r4 18 rfl) (am_cons (am_at in_wsL_law_r15 23 rfl) (am_cons (am_at in_wsL_law_r16 0 rfl) (am_cons (am_at in_wsL_law_r16 1 rfl) (am_cons (am_at in_wsL_law_r1 22 rfl) (am_cons (am_at in_wsL_law_r16 2 rfl) (am_cons (am_at in_wsL_law_r16 3 rfl) (am_cons (am_at in_wsL_law_r3 14 rfl) (am_cons (am_at in_wsL_law_r16 4 rfl) (am_cons (am_at in_wsL_law_r16 5 rfl) (am_cons (am_at in_wsL_law_r16 6 rfl) (am_cons (am_at in_wsL_law_r16 7 rfl) (am_cons (am_at in_wsL_law_r16 8 rfl) (am_cons (am_at in_wsL_law_r16 9 rfl) (am_cons (am_at in_wsL_law_r16 10 rfl) (am_cons (am_at in_wsL_law_r16 11 rfl) am_nil))))))))))))))))))))))))
set_option maxRecDepth 20000 in
theorem mm_wsX7_walk_r3 : ∀ w ∈ wsX7_walk_r3, w ∈ wsL_law := by
  unfold wsX7_walk_r3
  exact (am_cons (am_at in_wsL_law_r9 21 rfl) (am_cons (am_at in_wsL_law_r9 22 rfl) (am_cons (am_at in_wsL_law_r9 23 rfl) (am_cons (am_at in_wsL_law_r10 0 rfl) (am_cons (am_at in_wsL_law_r10 2 rfl) (am_cons (am_at in_wsL_law_r18 16 rfl) (am_cons (am_at in_wsL_law_r18 17 rfl) (am_cons (am_at in_wsL_law_r18 18 rfl) (am_cons (am_at in_wsL_law_r18 19 rfl) am_nil)))))))))
set_option maxRecDepth 20000 in
theorem mm_wsX7_walk : ∀ w ∈ wsX7_walk, w ∈ wsL_law := by
  unfold wsX7_walk
  exact am_cons (am_at in_wsL_law_r18 6 rfl) (am_app (am_app (am_app (am_app (am_app mm_wsX7_walk_r1 (am_app mm_wsX7_walk_r2 mm_wsX7_walk_r3)) in_wsX70) in_wsX10) in_wsX00) in_wsX20)
set_option maxRecDepth 20000 in
theorem ggL_law_X7_walk : GoodIn wsL_law wsX7_walk := goodIn_m mm_wsX7_walk (by decide +kernel)
theorem gL_law_X7_walk : GoodIn wsL_law (wsV RL 44 RX7 yX7_walk wsX7_walk) := goodIn_app (goodIn_m (am_cons (am_at in_wsL_law_r18 3 rfl) (am_cons (am_at in_wsL_law_r18 4 rfl) (am_cons (am_at in_wsL_law_r18 5 rfl) (am_cons (am_at in_wsL_law_r1 2 rfl) am_nil)))) (by decide +kernel)) ggL_law_X7_walk
set_option maxRecDepth 20000 in
theorem mm_wsX8_walk_r1 : ∀ w ∈ wsX8_walk_r1, w ∈ wsL_law := by
  unfold wsX8_walk_r1
  exact (am_cons (am_at in_wsL_law_r14 2 rfl) (am_cons (am_at in_wsL_law_r5 2 rfl) (am_cons (am_at in_wsL_law_r17 6 rfl) (am_cons (am_at in_wsL_law_r6 3 rfl) (am_cons (am_at in_wsL_law_r14 3 rfl) (am_cons (am_at in_wsL_law_r14 4 rfl) (am_cons (am_at in_wsL_law_r14 5 rfl) (am_cons (am_at in_wsL_law_r1 5 rfl) (am_cons (am_at in_wsL_law_r14 6 rfl) (am_cons (am_at in_wsL_law_r5 0 rfl) (am_cons (am_at in_wsL_law_r6 4 rfl) (am_cons (am_at in_wsL_law_r6 5 rfl) (am_cons (am_at in_wsL_law_r6 6 rfl) (am_cons (am_at in_wsL_law_r17 7 rfl) (am_cons (am_at in_wsL_law_r17 8 rfl) (am_cons (am_at in_wsL_law_r17 9 rfl) (am_cons (am_at in_wsL_law_r17 10 rfl) (am_cons (am_at in_wsL_law_r19 0 rfl) (am_cons (am_at in_wsL_law_r19 1 rfl) (am_cons (am_at in_wsL_law_r19 2 rfl) (am_cons (am_at in_wsL_law_r19 3 rfl) (am_cons (am_at in_wsL_law_r14 7 rfl) (am_cons (am_at in_wsL_law_r14 8 rfl) (am_cons (am_at in_wsL_law_r14 9 rfl) am_nil))))))))))))))))))))))))
set_option maxRecDepth 20000 in
theorem mm_wsX8_walk_r2 : ∀ w ∈ wsX8_walk_r2, w ∈ wsL_law := by
  unfold wsX8_walk_r2
  exact (am_cons (am_at in_wsL_law_r14 10 rfl) (am_cons (am_at in_wsL_law_r14 11 rfl) (am_cons (am_at in_wsL_law_r14 12 rfl) (am_cons (am_at in_wsL_law_r14 13 rfl) (am_cons (am_at in_wsL_law_r14 14 rfl) (am_cons (am_at in_wsL_law_r17 15 rfl) (am_cons (am_at in_wsL_law_r17 16 rfl) (am_cons (am_at in_wsL_law_r17 17 rfl) (am_cons (am_at in_wsL_law_r17 18 rfl) (am_cons (am_at in_wsL_law_r10 9 rfl) (am_cons (am_at in_wsL_law_r5 3 rfl) (am_cons (am_at in_wsL_law_r19 4 rfl) (am_cons (am_at in_wsL_law_r19 5 rfl) (am_cons (am_at in_wsL_law_r19 6 rfl) (am_cons (am_at in_wsL_law_r19 7 rfl) am_nil)))))))))))))))
set_option maxRecDepth 20000 in
theorem mm_wsX8_walk : ∀ w ∈ wsX8_walk, w ∈ wsL_law := by
  unfold wsX8_walk
  exact am_cons (am_at in_wsL_law_r18 23 rfl) (am_app (am_app mm_wsX8_walk_r1 mm_wsX8_walk_r2) in_wsX80)
set_option maxRecDepth 20000 in
theorem ggL_law_X8_walk : GoodIn wsL_law wsX8_walk := goodIn_m mm_wsX8_walk (by decide +kernel)
theorem gL_law_X8_walk : GoodIn wsL_law (wsV RL 47 RX8 yX8_walk wsX8_walk) := goodIn_app (goodIn_m (am_cons (am_at in_wsL_law_r18 20 rfl) (am_cons (am_at in_wsL_law_r18 21 rfl) (am_cons (am_at in_wsL_law_r18 22 rfl) (am_cons (am_at in_wsL_law_r1 5 rfl) am_nil)))) (by decide +kernel)) ggL_law_X8_walk
set_option maxRecDepth 20000 in
theorem mm_wsX7_war_r1 : ∀ w ∈ wsX7_war_r1, w ∈ wsL_law := by
  unfold wsX7_war_r1
  exact (am_cons (am_at in_wsL_law_r2 22 rfl) (am_cons (am_at in_wsL_law_r13 9 rfl) (am_cons (am_at in_wsL_law_r1 19 rfl) (am_cons (am_at in_wsL_law_r12 23 rfl) (am_cons (am_at in_wsL_law_r1 23 rfl) (am_cons (am_at in_wsL_law_r14 21 rfl) (am_cons (am_at in_wsL_law_r14 22 rfl) (am_cons (am_at in_wsL_law_r14 23 rfl) (am_cons (am_at in_wsL_law_r2 21 rfl) (am_cons (am_at in_wsL_law_r15 0 rfl) (am_cons (am_at in_wsL_law_r7 6 rfl) (am_cons (am_at in_wsL_law_r15 23 rfl) (am_cons (am_at in_wsL_law_r16 0 rfl) (am_cons (am_at in_wsL_law_r16 1 rfl) (am_cons (am_at in_wsL_law_r1 22 rfl) (am_cons (am_at in_wsL_law_r16 2 rfl) (am_cons (am_at in_wsL_law_r16 3 rfl) (am_cons (am_at in_wsL_law_r3 14 rfl) (am_cons (am_at in_wsL_law_r16 4 rfl) (am_cons (am_at in_wsL_law_r16 5 rfl) (am_cons (am_at in_wsL_law_r16 6 rfl) (am_cons (am_at in_wsL_law_r16 7 rfl) (am_cons (am_at in_wsL_law_r16 8 rfl) (am_cons (am_at in_wsL_law_r16 9 rfl) am_nil))))))))))))))))))))))))
set_option maxRecDepth 20000 in
theorem mm_wsX7_war_r2 : ∀ w ∈ wsX7_war_r2, w ∈ wsL_law := by
  unfold wsX7_war_r2
  exact (am_cons (am_at in_wsL_law_r16 10 rfl) (am_cons (am_at in_wsL_law_r1 18 rfl) (am_cons (am_at in_wsL_law_r16 11 rfl) (am_cons (am_at in_wsL_law_r9 20 rfl) (am_cons (am_at in_wsL_law_r9 21 rfl) (am_cons (am_at in_wsL_law_r9 22 rfl) (am_cons (am_at in_wsL_law_r9 23 rfl) (am_cons (am_at in_wsL_law_r10 0 rfl) (am_cons (am_at in_wsL_law_r10 1 rfl) (am_cons (am_at in_wsL_law_r10 2 rfl) am_nil))))))))))
set_option maxRecDepth 20000 in
theorem mm_wsX7_war : ∀ w ∈ wsX7_war, w ∈ wsL_law := by
  unfold wsX7_war
  exact am_cons (am_at in_wsL_law_r19 11 rfl) (am_app (am_app (am_app (am_app (am_app mm_wsX7_war_r1 mm_wsX7_war_r2) in_wsX70) in_wsX10) in_wsX00) in_wsX20)
set_option maxRecDepth 20000 in
theorem ggL_law_X7_war : GoodIn wsL_law wsX7_war := goodIn_m mm_wsX7_war (by decide +kernel)
theorem gL_law_X7_war : GoodIn wsL_law (wsV RL 48 RX7 yX7_war wsX7_war) := goodIn_app (goodIn_m (am_cons (am_at in_wsL_law_r19 8 rfl) (am_cons (am_at in_wsL_law_r19 9 rfl) (am_cons (am_at in_wsL_law_r19 10 rfl) (am_cons (am_at in_wsL_law_r1 2 rfl) am_nil)))) (by decide +kernel)) ggL_law_X7_war
set_option maxRecDepth 20000 in
theorem mm_wsX8_war : ∀ w ∈ wsX8_war, w ∈ wsL_law := by
  unfold wsX8_war
  exact am_cons (am_at in_wsL_law_r19 15 rfl) (am_app (am_cons (am_at in_wsL_law_r14 2 rfl) (am_cons (am_at in_wsL_law_r5 2 rfl) (am_cons (am_at in_wsL_law_r15 5 rfl) (am_cons (am_at in_wsL_law_r15 6 rfl) (am_cons (am_at in_wsL_law_r15 7 rfl) (am_cons (am_at in_wsL_law_r1 5 rfl) (am_cons (am_at in_wsL_law_r15 8 rfl) (am_cons (am_at in_wsL_law_r5 0 rfl) (am_cons (am_at in_wsL_law_r6 4 rfl) (am_cons (am_at in_wsL_law_r6 5 rfl) (am_cons (am_at in_wsL_law_r6 6 rfl) (am_cons (am_at in_wsL_law_r17 15 rfl) (am_cons (am_at in_wsL_law_r17 16 rfl) (am_cons (am_at in_wsL_law_r17 17 rfl) (am_cons (am_at in_wsL_law_r17 18 rfl) (am_cons (am_at in_wsL_law_r10 9 rfl) (am_cons (am_at in_wsL_law_r5 3 rfl) am_nil))))))))))))))))) in_wsX80)
set_option maxRecDepth 20000 in
theorem ggL_law_X8_war : GoodIn wsL_law wsX8_war := goodIn_m mm_wsX8_war (by decide +kernel)
theorem gL_law_X8_war : GoodIn wsL_law (wsV RL 52 RX8 yX8_war wsX8_war) := goodIn_app (goodIn_m (am_cons (am_at in_wsL_law_r19 12 rfl) (am_cons (am_at in_wsL_law_r19 13 rfl) (am_cons (am_at in_wsL_law_r19 14 rfl) (am_cons (am_at in_wsL_law_r1 5 rfl) am_nil)))) (by decide +kernel)) ggL_law_X8_war
set_option maxRecDepth 20000 in
theorem mm_wsX7_home_r1 : ∀ w ∈ wsX7_home_r1, w ∈ wsL_law := by
  unfold wsX7_home_r1
  exact (am_cons (am_at in_wsL_law_r1 19 rfl) (am_cons (am_at in_wsL_law_r12 18 rfl) (am_cons (am_at in_wsL_law_r15 13 rfl) (am_cons (am_at in_wsL_law_r1 23 rfl) (am_cons (am_at in_wsL_law_r13 0 rfl) (am_cons (am_at in_wsL_law_r12 21 rfl) (am_cons (am_at in_wsL_law_r15 14 rfl) (am_cons (am_at in_wsL_law_r15 15 rfl) (am_cons (am_at in_wsL_law_r15 16 rfl) (am_cons (am_at in_wsL_law_r1 2 rfl) (am_cons (am_at in_wsL_law_r15 17 rfl) (am_cons (am_at in_wsL_law_r2 22 rfl) (am_cons (am_at in_wsL_law_r6 15 rfl) (am_cons (am_at in_wsL_law_r15 23 rfl) (am_cons (am_at in_wsL_law_r16 0 rfl) (am_cons (am_at in_wsL_law_r16 1 rfl) (am_cons (am_at in_wsL_law_r1 22 rfl) (am_cons (am_at in_wsL_law_r16 2 rfl) (am_cons (am_at in_wsL_law_r16 3 rfl) (am_cons (am_at in_wsL_law_r3 14 rfl) (am_cons (am_at in_wsL_law_r16 4 rfl) (am_cons (am_at in_wsL_law_r16 5 rfl) (am_cons (am_at in_wsL_law_r16 6 rfl) (am_cons (am_at in_wsL_law_r16 7 rfl) am_nil))))))))))))))))))))))))
set_option maxRecDepth 20000 in
theorem mm_wsX7_home_r2 : ∀ w ∈ wsX7_home_r2, w ∈ wsL_law := by
  unfold wsX7_home_r2
  exact (am_cons (am_at in_wsL_law_r16 8 rfl) (am_cons (am_at in_wsL_law_r16 9 rfl) (am_cons (am_at in_wsL_law_r16 10 rfl) (am_cons (am_at in_wsL_law_r1 18 rfl) (am_cons (am_at in_wsL_law_r16 11 rfl) (am_cons (am_at in_wsL_law_r9 20 rfl) (am_cons (am_at in_wsL_law_r9 21 rfl) (am_cons (am_at in_wsL_law_r9 22 rfl) (am_cons (am_at in_wsL_law_r9 23 rfl) (am_cons (am_at in_wsL_law_r10 0 rfl) (am_cons (am_at in_wsL_law_r10 1 rfl) (am_cons (am_at in_wsL_law_r10 2 rfl) am_nil))))))))))))
set_option maxRecDepth 20000 in
theorem mm_wsX7_home : ∀ w ∈ wsX7_home, w ∈ wsL_law := by
  unfold wsX7_home
  exact am_cons (am_at in_wsL_law_r19 19 rfl) (am_app (am_app (am_app (am_app (am_app mm_wsX7_home_r1 mm_wsX7_home_r2) in_wsX70) in_wsX10) in_wsX00) in_wsX20)
set_option maxRecDepth 20000 in
theorem ggL_law_X7_home : GoodIn wsL_law wsX7_home := goodIn_m mm_wsX7_home (by decide +kernel)
theorem gL_law_X7_home : GoodIn wsL_law (wsV RL 53 RX7 yX7_home wsX7_home) := goodIn_app (goodIn_m (am_cons (am_at in_wsL_law_r19 16 rfl) (am_cons (am_at in_wsL_law_r19 17 rfl) (am_cons (am_at in_wsL_law_r19 18 rfl) (am_cons (am_at in_wsL_law_r1 2 rfl) am_nil)))) (by decide +kernel)) ggL_law_X7_home
set_option maxRecDepth 20000 in
theorem mm_wsX8_home : ∀ w ∈ wsX8_home, w ∈ wsL_law := by
  unfold wsX8_home
  exact am_cons (am_at in_wsL_law_r19 23 rfl) (am_app (am_cons (am_at in_wsL_law_r5 2 rfl) (am_cons (am_at in_wsL_law_r17 6 rfl) (am_cons (am_at in_wsL_law_r17 7 rfl) (am_cons (am_at in_wsL_law_r17 8 rfl) (am_cons (am_at in_wsL_law_r17 9 rfl) (am_cons (am_at in_wsL_law_r1 5 rfl) (am_cons (am_at in_wsL_law_r17 10 rfl) (am_cons (am_at in_wsL_law_r5 0 rfl) (am_cons (am_at in_wsL_law_r17 15 rfl) (am_cons (am_at in_wsL_law_r17 16 rfl) (am_cons (am_at in_wsL_law_r17 17 rfl) (am_cons (am_at in_wsL_law_r17 18 rfl) (am_cons (am_at in_wsL_law_r10 9 rfl) (am_cons (am_at in_wsL_law_r5 3 rfl) am_nil)))))))))))))) in_wsX80)
set_option maxRecDepth 20000 in
theorem ggL_law_X8_home : GoodIn wsL_law wsX8_home := goodIn_m mm_wsX8_home (by decide +kernel)
theorem gL_law_X8_home : GoodIn wsL_law (wsV RL 56 RX8 yX8_home wsX8_home) := goodIn_app (goodIn_m (am_cons (am_at in_wsL_law_r19 20 rfl) (am_cons (am_at in_wsL_law_r19 21 rfl) (am_cons (am_at in_wsL_law_r19 22 rfl) (am_cons (am_at in_wsL_law_r1 5 rfl) am_nil)))) (by decide +kernel)) ggL_law_X8_home
set_option maxRecDepth 20000 in
theorem mm_wsX7_drift_r1 : ∀ w ∈ wsX7_drift_r1, w ∈ wsL_law := by
  unfold wsX7_drift_r1
  exact (am_cons (am_at in_wsL_law_r5 17 rfl) (am_cons (am_at in_wsL_law_r15 13 rfl) (am_cons (am_at in_wsL_law_r1 19 rfl) (am_cons (am_at in_wsL_law_r12 18 rfl) (am_cons (am_at in_wsL_law_r5 19 rfl) (am_cons (am_at in_wsL_law_r1 23 rfl) (am_cons (am_at in_wsL_law_r12 21 rfl) (am_cons (am_at in_wsL_law_r15 14 rfl) (am_cons (am_at in_wsL_law_r15 15 rfl) (am_cons (am_at in_wsL_law_r15 16 rfl) (am_cons (am_at in_wsL_law_r1 2 rfl) (am_cons (am_at in_wsL_law_r15 17 rfl) (am_cons (am_at in_wsL_law_r2 22 rfl) (am_cons (am_at in_wsL_law_r6 15 rfl) (am_cons (am_at in_wsL_law_r13 0 rfl) (am_cons (am_at in_wsL_law_r15 23 rfl) (am_cons (am_at in_wsL_law_r16 0 rfl) (am_cons (am_at in_wsL_law_r16 1 rfl) (am_cons (am_at in_wsL_law_r1 22 rfl) (am_cons (am_at in_wsL_law_r16 2 rfl) (am_cons (am_at in_wsL_law_r16 3 rfl) (am_cons (am_at in_wsL_law_r3 14 rfl) (am_cons (am_at in_wsL_law_r16 4 rfl) (am_cons (am_at in_wsL_law_r16 5 rfl) am_nil))))))))))))))))))))))))
set_option maxRecDepth 20000 in
theorem mm_wsX7_drift_r2 : ∀ w ∈ wsX7_drift_r2, w ∈ wsL_law := by
  unfold wsX7_drift_r2
  exact (am_cons (am_at in_wsL_law_r16 6 rfl) (am_cons (am_at in_wsL_law_r16 7 rfl) (am_cons (am_at in_wsL_law_r16 8 rfl) (am_cons (am_at in_wsL_law_r16 9 rfl) (am_cons (am_at in_wsL_law_r16 10 rfl) (am_cons (am_at in_wsL_law_r1 18 rfl) (am_cons (am_at in_wsL_law_r16 11 rfl) (am_cons (am_at in_wsL_law_r9 20 rfl) (am_cons (am_at in_wsL_law_r9 21 rfl) (am_cons (am_at in_wsL_law_r9 22 rfl) (am_cons (am_at in_wsL_law_r9 23 rfl) (am_cons (am_at in_wsL_law_r10 0 rfl) (am_cons (am_at in_wsL_law_r10 1 rfl) (am_cons (am_at in_wsL_law_r10 2 rfl) (am_cons (am_at in_wsL_law_r20 4 rfl) (am_cons (am_at in_wsL_law_r20 5 rfl) (am_cons (am_at in_wsL_law_r20 6 rfl) (am_cons (am_at in_wsL_law_r20 7 rfl) (am_cons (am_at in_wsL_law_r12 17 rfl) (am_cons (am_at in_wsL_law_r12 23 rfl) (am_cons (am_at in_wsL_law_r20 8 rfl) (am_cons (am_at in_wsL_law_r20 9 rfl) (am_cons (am_at in_wsL_law_r20 10 rfl) (am_cons (am_at in_wsL_law_r20 11 rfl) am_nil))))))))))))))))))))))))
set_option maxRecDepth 20000 in
theorem mm_wsX7_drift_r3 : ∀ w ∈ wsX7_drift_r3, w ∈ wsL_law := by
  unfold wsX7_drift_r3
  exact (am_cons (am_at in_wsL_law_r20 12 rfl) (am_cons (am_at in_wsL_law_r20 13 rfl) (am_cons (am_at in_wsL_law_r20 14 rfl) (am_cons (am_at in_wsL_law_r20 15 rfl) (am_cons (am_at in_wsL_law_r20 16 rfl) (am_cons (am_at in_wsL_law_r15 18 rfl) (am_cons (am_at in_wsL_law_r15 19 rfl) (am_cons (am_at in_wsL_law_r15 20 rfl) (am_cons (am_at in_wsL_law_r15 21 rfl) (am_cons (am_at in_wsL_law_r15 22 rfl) (am_cons (am_at in_wsL_law_r16 12 rfl) (am_cons (am_at in_wsL_law_r16 13 rfl) (am_cons (am_at in_wsL_law_r16 14 rfl) (am_cons (am_at in_wsL_law_r16 15 rfl) (am_cons (am_at in_wsL_law_r16 16 rfl) (am_cons (am_at in_wsL_law_r16 17 rfl) (am_cons (am_at in_wsL_law_r16 18 rfl) (am_cons (am_at in_wsL_law_r2 21 rfl) (am_cons (am_at in_wsL_law_r16 19 rfl) (am_cons (am_at in_wsL_law_r4 16 rfl) (am_cons (am_at in_wsL_law_r16 20 rfl) (am_cons (am_at in_wsL_law_r16 21 rfl) (am_cons (am_at in_wsL_law_r16 22 rfl) (am_cons (am_at in_wsL_law_r16 23 rfl) am_nil))))))))))))))))))))))))
set_option maxRecDepth 20000 in
theorem mm_wsX7_drift_r4 : ∀ w ∈ wsX7_drift_r4, w ∈ wsL_law := by
  unfold wsX7_drift_r4
  exact (am_cons (am_at in_wsL_law_r4 15 rfl) (am_cons (am_at in_wsL_law_r7 4 rfl) (am_cons (am_at in_wsL_law_r17 0 rfl) (am_cons (am_at in_wsL_law_r13 14 rfl) (am_cons (am_at in_wsL_law_r13 15 rfl) (am_cons (am_at in_wsL_law_r13 16 rfl) (am_cons (am_at in_wsL_law_r7 5 rfl) (am_cons (am_at in_wsL_law_r17 1 rfl) (am_cons (am_at in_wsL_law_r18 7 rfl) (am_cons (am_at in_wsL_law_r18 8 rfl) (am_cons (am_at in_wsL_law_r18 9 rfl) (am_cons (am_at in_wsL_law_r18 10 rfl) (am_cons (am_at in_wsL_law_r18 11 rfl) (am_cons (am_at in_wsL_law_r18 12 rfl) (am_cons (am_at in_wsL_law_r18 13 rfl) (am_cons (am_at in_wsL_law_r18 14 rfl) (am_cons (am_at in_wsL_law_r7 7 rfl) (am_cons (am_at in_wsL_law_r18 15 rfl) (am_cons (am_at in_wsL_law_r9 9 rfl) (am_cons (am_at in_wsL_law_r9 10 rfl) (am_cons (am_at in_wsL_law_r9 11 rfl) (am_cons (am_at in_wsL_law_r7 6 rfl) (am_cons (am_at in_wsL_law_r4 17 rfl) (am_cons (am_at in_wsL_law_r4 18 rfl) am_nil))))))))))))))))))))))))
set_option maxRecDepth 20000 in
theorem mm_wsX7_drift_r5 : ∀ w ∈ wsX7_drift_r5, w ∈ wsL_law := by
  unfold wsX7_drift_r5
  exact (am_cons (am_at in_wsL_law_r18 16 rfl) (am_cons (am_at in_wsL_law_r18 17 rfl) (am_cons (am_at in_wsL_law_r18 18 rfl) (am_cons (am_at in_wsL_law_r18 19 rfl) am_nil))))
set_option maxRecDepth 20000 in
theorem mm_wsX7_drift : ∀ w ∈ wsX7_drift, w ∈ wsL_law := by
  unfold wsX7_drift
  exact am_cons (am_at in_wsL_law_r20 3 rfl) (am_app (am_app (am_app (am_app (am_app mm_wsX7_drift_r1 (am_app mm_wsX7_drift_r2 (am_app mm_wsX7_drift_r3 (am_app mm_wsX7_drift_r4 mm_wsX7_drift_r5)))) in_wsX70) in_wsX10) in_wsX00) in_wsX20)
set_option maxRecDepth 20000 in
theorem ggL_law_X7_drift : GoodIn wsL_law wsX7_drift := goodIn_m mm_wsX7_drift (by decide +kernel)
theorem gL_law_X7_drift : GoodIn wsL_law (wsV RL 57 RX7 yX7_drift wsX7_drift) := goodIn_app (goodIn_m (am_cons (am_at in_wsL_law_r20 0 rfl) (am_cons (am_at in_wsL_law_r20 1 rfl) (am_cons (am_at in_wsL_law_r20 2 rfl) (am_cons (am_at in_wsL_law_r1 2 rfl) am_nil)))) (by decide +kernel)) ggL_law_X7_drift
set_option maxRecDepth 20000 in
theorem mm_wsX8_drift_r1 : ∀ w ∈ wsX8_drift_r1, w ∈ wsL_law := by
  unfold wsX8_drift_r1
  exact (am_cons (am_at in_wsL_law_r6 1 rfl) (am_cons (am_at in_wsL_law_r17 6 rfl) (am_cons (am_at in_wsL_law_r5 2 rfl) (am_cons (am_at in_wsL_law_r6 3 rfl) (am_cons (am_at in_wsL_law_r6 4 rfl) (am_cons (am_at in_wsL_law_r6 5 rfl) (am_cons (am_at in_wsL_law_r1 5 rfl) (am_cons (am_at in_wsL_law_r6 6 rfl) (am_cons (am_at in_wsL_law_r17 7 rfl) (am_cons (am_at in_wsL_law_r17 8 rfl) (am_cons (am_at in_wsL_law_r17 9 rfl) (am_cons (am_at in_wsL_law_r17 10 rfl) (am_cons (am_at in_wsL_law_r5 0 rfl) (am_cons (am_at in_wsL_law_r17 15 rfl) (am_cons (am_at in_wsL_law_r17 16 rfl) (am_cons (am_at in_wsL_law_r17 17 rfl) (am_cons (am_at in_wsL_law_r17 18 rfl) (am_cons (am_at in_wsL_law_r10 9 rfl) (am_cons (am_at in_wsL_law_r5 3 rfl) (am_cons (am_at in_wsL_law_r20 21 rfl) (am_cons (am_at in_wsL_law_r20 22 rfl) (am_cons (am_at in_wsL_law_r20 23 rfl) (am_cons (am_at in_wsL_law_r21 0 rfl) (am_cons (am_at in_wsL_law_r21 1 rfl) am_nil))))))))))))))))))))))))
set_option maxRecDepth 20000 in
theorem mm_wsX8_drift_r2 : ∀ w ∈ wsX8_drift_r2, w ∈ wsL_law := by
  unfold wsX8_drift_r2
  exact (am_cons (am_at in_wsL_law_r21 2 rfl) (am_cons (am_at in_wsL_law_r21 3 rfl) (am_cons (am_at in_wsL_law_r21 4 rfl) (am_cons (am_at in_wsL_law_r21 5 rfl) (am_cons (am_at in_wsL_law_r21 6 rfl) (am_cons (am_at in_wsL_law_r21 7 rfl) (am_cons (am_at in_wsL_law_r21 8 rfl) (am_cons (am_at in_wsL_law_r21 9 rfl) (am_cons (am_at in_wsL_law_r17 11 rfl) (am_cons (am_at in_wsL_law_r17 12 rfl) (am_cons (am_at in_wsL_law_r17 13 rfl) (am_cons (am_at in_wsL_law_r17 14 rfl) (am_cons (am_at in_wsL_law_r19 0 rfl) (am_cons (am_at in_wsL_law_r19 1 rfl) (am_cons (am_at in_wsL_law_r19 2 rfl) (am_cons (am_at in_wsL_law_r19 3 rfl) (am_cons (am_at in_wsL_law_r14 7 rfl) (am_cons (am_at in_wsL_law_r14 8 rfl) (am_cons (am_at in_wsL_law_r14 9 rfl) (am_cons (am_at in_wsL_law_r14 10 rfl) (am_cons (am_at in_wsL_law_r14 11 rfl) (am_cons (am_at in_wsL_law_r14 12 rfl) (am_cons (am_at in_wsL_law_r14 13 rfl) (am_cons (am_at in_wsL_law_r14 14 rfl) am_nil))))))))))))))))))))))))
set_option maxRecDepth 20000 in
theorem mm_wsX8_drift_r3 : ∀ w ∈ wsX8_drift_r3, w ∈ wsL_law := by
  unfold wsX8_drift_r3
  exact (am_cons (am_at in_wsL_law_r21 10 rfl) (am_cons (am_at in_wsL_law_r21 11 rfl) (am_cons (am_at in_wsL_law_r21 12 rfl) (am_cons (am_at in_wsL_law_r17 19 rfl) (am_cons (am_at in_wsL_law_r17 20 rfl) (am_cons (am_at in_wsL_law_r17 21 rfl) (am_cons (am_at in_wsL_law_r17 22 rfl) (am_cons (am_at in_wsL_law_r17 23 rfl) (am_cons (am_at in_wsL_law_r18 0 rfl) (am_cons (am_at in_wsL_law_r18 1 rfl) (am_cons (am_at in_wsL_law_r18 2 rfl) (am_cons (am_at in_wsL_law_r19 4 rfl) (am_cons (am_at in_wsL_law_r19 5 rfl) (am_cons (am_at in_wsL_law_r19 6 rfl) (am_cons (am_at in_wsL_law_r19 7 rfl) am_nil)))))))))))))))
set_option maxRecDepth 20000 in
theorem mm_wsX8_drift : ∀ w ∈ wsX8_drift, w ∈ wsL_law := by
  unfold wsX8_drift
  exact am_cons (am_at in_wsL_law_r20 20 rfl) (am_app (am_app mm_wsX8_drift_r1 (am_app mm_wsX8_drift_r2 mm_wsX8_drift_r3)) in_wsX80)
set_option maxRecDepth 20000 in
theorem ggL_law_X8_drift : GoodIn wsL_law wsX8_drift := goodIn_m mm_wsX8_drift (by decide +kernel)
theorem gL_law_X8_drift : GoodIn wsL_law (wsV RL 60 RX8 yX8_drift wsX8_drift) := goodIn_app (goodIn_m (am_cons (am_at in_wsL_law_r20 17 rfl) (am_cons (am_at in_wsL_law_r20 18 rfl) (am_cons (am_at in_wsL_law_r20 19 rfl) (am_cons (am_at in_wsL_law_r1 5 rfl) am_nil)))) (by decide +kernel)) ggL_law_X8_drift
set_option maxRecDepth 20000 in
theorem mm_wsX7_undo : ∀ w ∈ wsX7_undo, w ∈ wsL_law := by
  unfold wsX7_undo
  exact am_cons (am_at in_wsL_law_r21 16 rfl) (am_app (am_app (am_app (am_cons (am_at in_wsL_law_r1 23 rfl) (am_cons (am_at in_wsL_law_r6 12 rfl) (am_cons (am_at in_wsL_law_r15 13 rfl) (am_cons (am_at in_wsL_law_r1 19 rfl) (am_cons (am_at in_wsL_law_r21 17 rfl) (am_cons (am_at in_wsL_law_r21 18 rfl) (am_cons (am_at in_wsL_law_r21 19 rfl) (am_cons (am_at in_wsL_law_r1 22 rfl) (am_cons (am_at in_wsL_law_r21 20 rfl) (am_cons (am_at in_wsL_law_r16 3 rfl) (am_cons (am_at in_wsL_law_r3 14 rfl) (am_cons (am_at in_wsL_law_r16 8 rfl) (am_cons (am_at in_wsL_law_r16 9 rfl) (am_cons (am_at in_wsL_law_r16 10 rfl) (am_cons (am_at in_wsL_law_r1 18 rfl) (am_cons (am_at in_wsL_law_r16 11 rfl) (am_cons (am_at in_wsL_law_r9 20 rfl) (am_cons (am_at in_wsL_law_r9 21 rfl) (am_cons (am_at in_wsL_law_r9 22 rfl) (am_cons (am_at in_wsL_law_r9 23 rfl) (am_cons (am_at in_wsL_law_r10 0 rfl) (am_cons (am_at in_wsL_law_r10 1 rfl) (am_cons (am_at in_wsL_law_r10 2 rfl) am_nil))))))))))))))))))))))) in_wsX70) in_wsX20) in_wsX10)
set_option maxRecDepth 20000 in
theorem ggL_law_X7_undo : GoodIn wsL_law wsX7_undo := goodIn_m mm_wsX7_undo (by decide +kernel)
theorem gL_law_X7_undo : GoodIn wsL_law (wsV RL 61 RX7 yX7_undo wsX7_undo) := goodIn_app (goodIn_m (am_cons (am_at in_wsL_law_r21 13 rfl) (am_cons (am_at in_wsL_law_r21 14 rfl) (am_cons (am_at in_wsL_law_r21 15 rfl) (am_cons (am_at in_wsL_law_r1 2 rfl) am_nil)))) (by decide +kernel)) ggL_law_X7_undo
set_option maxRecDepth 20000 in
theorem mm_wsX8_undo : ∀ w ∈ wsX8_undo, w ∈ wsL_law := by
  unfold wsX8_undo
  exact am_cons (am_at in_wsL_law_r22 0 rfl) (am_app (am_cons (am_at in_wsL_law_r10 9 rfl) (am_cons (am_at in_wsL_law_r17 6 rfl) (am_cons (am_at in_wsL_law_r5 2 rfl) (am_cons (am_at in_wsL_law_r5 3 rfl) am_nil)))) in_wsX80)
set_option maxRecDepth 20000 in
theorem ggL_law_X8_undo : GoodIn wsL_law wsX8_undo := goodIn_m mm_wsX8_undo (by decide +kernel)
theorem gL_law_X8_undo : GoodIn wsL_law (wsV RL 64 RX8 yX8_undo wsX8_undo) := goodIn_app (goodIn_m (am_cons (am_at in_wsL_law_r21 21 rfl) (am_cons (am_at in_wsL_law_r21 22 rfl) (am_cons (am_at in_wsL_law_r21 23 rfl) (am_cons (am_at in_wsL_law_r1 5 rfl) am_nil)))) (by decide +kernel)) ggL_law_X8_undo
set_option maxRecDepth 20000 in
theorem mm_wsX7_may_r1 : ∀ w ∈ wsX7_may_r1, w ∈ wsL_law := by
  unfold wsX7_may_r1
  exact (am_cons (am_at in_wsL_law_r5 17 rfl) (am_cons (am_at in_wsL_law_r15 13 rfl) (am_cons (am_at in_wsL_law_r1 19 rfl) (am_cons (am_at in_wsL_law_r2 22 rfl) (am_cons (am_at in_wsL_law_r15 14 rfl) (am_cons (am_at in_wsL_law_r15 15 rfl) (am_cons (am_at in_wsL_law_r15 16 rfl) (am_cons (am_at in_wsL_law_r1 2 rfl) (am_cons (am_at in_wsL_law_r15 17 rfl) (am_cons (am_at in_wsL_law_r6 15 rfl) (am_cons (am_at in_wsL_law_r13 0 rfl) (am_cons (am_at in_wsL_law_r18 7 rfl) (am_cons (am_at in_wsL_law_r18 8 rfl) (am_cons (am_at in_wsL_law_r18 9 rfl) (am_cons (am_at in_wsL_law_r1 18 rfl) (am_cons (am_at in_wsL_law_r18 10 rfl) (am_cons (am_at in_wsL_law_r9 20 rfl) (am_cons (am_at in_wsL_law_r10 1 rfl) (am_cons (am_at in_wsL_law_r18 11 rfl) (am_cons (am_at in_wsL_law_r18 12 rfl) (am_cons (am_at in_wsL_law_r18 13 rfl) (am_cons (am_at in_wsL_law_r2 21 rfl) (am_cons (am_at in_wsL_law_r18 14 rfl) (am_cons (am_at in_wsL_law_r7 7 rfl) am_nil))))))))))))))))))))))))
set_option maxRecDepth 20000 in
theorem mm_wsX7_may_r2 : ∀ w ∈ wsX7_may_r2, w ∈ wsL_law := by
  unfold wsX7_may_r2
  exact (am_cons (am_at in_wsL_law_r18 15 rfl) (am_cons (am_at in_wsL_law_r9 9 rfl) (am_cons (am_at in_wsL_law_r9 10 rfl) (am_cons (am_at in_wsL_law_r9 11 rfl) (am_cons (am_at in_wsL_law_r7 6 rfl) (am_cons (am_at in_wsL_law_r4 17 rfl) (am_cons (am_at in_wsL_law_r4 18 rfl) (am_cons (am_at in_wsL_law_r15 18 rfl) (am_cons (am_at in_wsL_law_r15 19 rfl) (am_cons (am_at in_wsL_law_r15 20 rfl) (am_cons (am_at in_wsL_law_r15 21 rfl) (am_cons (am_at in_wsL_law_r9 22 rfl) (am_cons (am_at in_wsL_law_r15 22 rfl) am_nil)))))))))))))
set_option maxRecDepth 20000 in
theorem mm_wsX7_may : ∀ w ∈ wsX7_may, w ∈ wsL_law := by
  unfold wsX7_may
  exact am_cons (am_at in_wsL_law_r22 4 rfl) (am_app (am_app (am_app (am_app mm_wsX7_may_r1 mm_wsX7_may_r2) in_wsX70) in_wsX00) in_wsX10)
set_option maxRecDepth 20000 in
theorem ggL_law_X7_may : GoodIn wsL_law wsX7_may := goodIn_m mm_wsX7_may (by decide +kernel)
theorem gL_law_X7_may : GoodIn wsL_law (wsV RL 65 RX7 yX7_may wsX7_may) := goodIn_app (goodIn_m (am_cons (am_at in_wsL_law_r22 1 rfl) (am_cons (am_at in_wsL_law_r22 2 rfl) (am_cons (am_at in_wsL_law_r22 3 rfl) (am_cons (am_at in_wsL_law_r1 2 rfl) am_nil)))) (by decide +kernel)) ggL_law_X7_may
set_option maxRecDepth 20000 in
theorem mm_wsX8_may_r1 : ∀ w ∈ wsX8_may_r1, w ∈ wsL_law := by
  unfold wsX8_may_r1
  exact (am_cons (am_at in_wsL_law_r6 1 rfl) (am_cons (am_at in_wsL_law_r17 6 rfl) (am_cons (am_at in_wsL_law_r5 2 rfl) (am_cons (am_at in_wsL_law_r6 4 rfl) (am_cons (am_at in_wsL_law_r6 5 rfl) (am_cons (am_at in_wsL_law_r1 5 rfl) (am_cons (am_at in_wsL_law_r6 6 rfl) (am_cons (am_at in_wsL_law_r17 7 rfl) (am_cons (am_at in_wsL_law_r17 8 rfl) (am_cons (am_at in_wsL_law_r17 9 rfl) (am_cons (am_at in_wsL_law_r17 10 rfl) (am_cons (am_at in_wsL_law_r5 0 rfl) (am_cons (am_at in_wsL_law_r19 0 rfl) (am_cons (am_at in_wsL_law_r19 1 rfl) (am_cons (am_at in_wsL_law_r19 2 rfl) (am_cons (am_at in_wsL_law_r19 3 rfl) (am_cons (am_at in_wsL_law_r14 7 rfl) (am_cons (am_at in_wsL_law_r14 8 rfl) (am_cons (am_at in_wsL_law_r14 9 rfl) (am_cons (am_at in_wsL_law_r14 10 rfl) (am_cons (am_at in_wsL_law_r14 11 rfl) (am_cons (am_at in_wsL_law_r14 12 rfl) (am_cons (am_at in_wsL_law_r14 13 rfl) (am_cons (am_at in_wsL_law_r14 14 rfl) am_nil))))))))))))))))))))))))
set_option maxRecDepth 20000 in
theorem mm_wsX8_may_r2 : ∀ w ∈ wsX8_may_r2, w ∈ wsL_law := by
  unfold wsX8_may_r2
  exact (am_cons (am_at in_wsL_law_r17 11 rfl) (am_cons (am_at in_wsL_law_r17 12 rfl) (am_cons (am_at in_wsL_law_r17 13 rfl) (am_cons (am_at in_wsL_law_r17 14 rfl) am_nil))))
set_option maxRecDepth 20000 in
theorem mm_wsX8_may : ∀ w ∈ wsX8_may, w ∈ wsL_law := by
  unfold wsX8_may
  exact am_cons (am_at in_wsL_law_r22 8 rfl) (am_app (am_app mm_wsX8_may_r1 mm_wsX8_may_r2) in_wsX80)
set_option maxRecDepth 20000 in
theorem ggL_law_X8_may : GoodIn wsL_law wsX8_may := goodIn_m mm_wsX8_may (by decide +kernel)
theorem gL_law_X8_may : GoodIn wsL_law (wsV RL 68 RX8 yX8_may wsX8_may) := goodIn_app (goodIn_m (am_cons (am_at in_wsL_law_r22 5 rfl) (am_cons (am_at in_wsL_law_r22 6 rfl) (am_cons (am_at in_wsL_law_r22 7 rfl) (am_cons (am_at in_wsL_law_r1 5 rfl) am_nil)))) (by decide +kernel)) ggL_law_X8_may
set_option maxRecDepth 20000 in
theorem mm_wsX7_reach_r1 : ∀ w ∈ wsX7_reach_r1, w ∈ wsL_law := by
  unfold wsX7_reach_r1
  exact (am_cons (am_at in_wsL_law_r2 22 rfl) (am_cons (am_at in_wsL_law_r13 9 rfl) (am_cons (am_at in_wsL_law_r1 19 rfl) (am_cons (am_at in_wsL_law_r13 0 rfl) (am_cons (am_at in_wsL_law_r15 13 rfl) (am_cons (am_at in_wsL_law_r2 18 rfl) (am_cons (am_at in_wsL_law_r12 23 rfl) (am_cons (am_at in_wsL_law_r12 19 rfl) (am_cons (am_at in_wsL_law_r6 15 rfl) (am_cons (am_at in_wsL_law_r13 13 rfl) (am_cons (am_at in_wsL_law_r13 14 rfl) (am_cons (am_at in_wsL_law_r13 15 rfl) (am_cons (am_at in_wsL_law_r2 21 rfl) (am_cons (am_at in_wsL_law_r13 16 rfl) (am_cons (am_at in_wsL_law_r7 5 rfl) (am_cons (am_at in_wsL_law_r22 13 rfl) (am_cons (am_at in_wsL_law_r22 14 rfl) (am_cons (am_at in_wsL_law_r22 15 rfl) (am_cons (am_at in_wsL_law_r22 16 rfl) (am_cons (am_at in_wsL_law_r22 17 rfl) (am_cons (am_at in_wsL_law_r18 12 rfl) (am_cons (am_at in_wsL_law_r18 13 rfl) (am_cons (am_at in_wsL_law_r18 14 rfl) (am_cons (am_at in_wsL_law_r7 7 rfl) am_nil))))))))))))))))))))))))
set_option maxRecDepth 20000 in
theorem mm_wsX7_reach_r2 : ∀ w ∈ wsX7_reach_r2, w ∈ wsL_law := by
  unfold wsX7_reach_r2
  exact (am_cons (am_at in_wsL_law_r18 15 rfl) (am_cons (am_at in_wsL_law_r9 9 rfl) (am_cons (am_at in_wsL_law_r9 10 rfl) (am_cons (am_at in_wsL_law_r9 11 rfl) (am_cons (am_at in_wsL_law_r7 6 rfl) (am_cons (am_at in_wsL_law_r4 17 rfl) (am_cons (am_at in_wsL_law_r4 18 rfl) (am_cons (am_at in_wsL_law_r22 18 rfl) (am_cons (am_at in_wsL_law_r22 19 rfl) (am_cons (am_at in_wsL_law_r1 2 rfl) (am_cons (am_at in_wsL_law_r22 20 rfl) am_nil)))))))))))
set_option maxRecDepth 20000 in
theorem mm_wsX7_reach : ∀ w ∈ wsX7_reach, w ∈ wsL_law := by
  unfold wsX7_reach
  exact am_cons (am_at in_wsL_law_r22 12 rfl) (am_app (am_app (am_app (am_app mm_wsX7_reach_r1 mm_wsX7_reach_r2) in_wsX70) in_wsX10) in_wsX00)
set_option maxRecDepth 20000 in
theorem ggL_law_X7_reach : GoodIn wsL_law wsX7_reach := goodIn_m mm_wsX7_reach (by decide +kernel)
theorem gL_law_X7_reach : GoodIn wsL_law (wsV RL 69 RX7 yX7_reach wsX7_reach) := goodIn_app (goodIn_m (am_cons (am_at in_wsL_law_r22 9 rfl) (am_cons (am_at in_wsL_law_r22 10 rfl) (am_cons (am_at in_wsL_law_r22 11 rfl) (am_cons (am_at in_wsL_law_r1 2 rfl) am_nil)))) (by decide +kernel)) ggL_law_X7_reach
