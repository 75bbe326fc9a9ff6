set_option maxRecDepth 20000 in
theorem wsL_law_c7b : ∀ w ∈ wsL_law0_r7.drop 5, w ∈ lw_tbl := fun w h => (goodIn_p (wsL_law0_r7.drop 5) [610, 372, 539] (by decide +kernel) (by decide +kernel) w h).1
theorem wsL_law_c7 : ∀ w ∈ wsL_law0_r7, w ∈ lw_tbl := fun w h => (List.mem_append.mp ((List.take_append_drop 5 wsL_law0_r7).symm ▸ h)).elim (wsL_law_c7a w) (wsL_law_c7b w)
set_option maxRecDepth 20000 in
theorem wsL_law_c8a : ∀ w ∈ wsL_law0_r8.take 7, w ∈ lw_tbl := fun w h => (goodIn_p (wsL_law0_r8.take 7) [344, 348] (by decide +kernel) (by decide +kernel) w h).1
set_option maxRecDepth 20000 in
theorem wsL_law_c8b : ∀ w ∈ wsL_law0_r8.drop 7, w ∈ lw_tbl := fun w h => (goodIn_p (wsL_law0_r8.drop 7) [412, 584] (by decide +kernel) (by decide +kernel) w h).1
theorem wsL_law_c8 : ∀ w ∈ wsL_law0_r8, w ∈ lw_tbl := fun w h => (List.mem_append.mp ((List.take_append_drop 7 wsL_law0_r8).symm ▸ h)).elim (wsL_law_c8a w) (wsL_law_c8b w)
set_option maxRecDepth 20000 in
theorem wsL_law_c9a : ∀ w ∈ wsL_law0_r9.take 10, w ∈ lw_tbl := fun w h => (goodIn_p (wsL_law0_r9.take 10) [571, 575, 547] (by decide +kernel) (by decide +kernel) w h).1
set_option maxRecDepth 20000 in
theorem wsL_law_c9b : ∀ w ∈ wsL_law0_r9.drop 10, w ∈ lw_tbl := fun w h => (goodIn_p (wsL_law0_r9.drop 10) [176, 101, 555] (by decide +kernel) (by decide +kernel) w h).1
theorem wsL_law_c9 : ∀ w ∈ wsL_law0_r9, w ∈ lw_tbl := fun w h => (List.mem_append.mp ((List.take_append_drop 10 wsL_law0_r9).symm ▸ h)).elim (wsL_law_c9a w) (wsL_law_c9b w)
set_option maxRecDepth 20000 in
theorem wsL_law_c10a : ∀ w ∈ wsL_law0_r10.take 6, w ∈ lw_tbl := fun w h => (goodIn_p (wsL_law0_r10.take 6) [551, 559] (by decide +kernel) (by decide +kernel) w h).1
