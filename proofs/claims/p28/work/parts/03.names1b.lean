set_option maxRecDepth 20000 in
theorem wsL_law_c5b : ∀ w ∈ wsL_law0_r5.drop 9, w ∈ lw_tbl := fun w h => (goodIn_p (wsL_law0_r5.drop 9) [500, 360, 504] (by decide +kernel) (by decide +kernel) w h).1
theorem wsL_law_c5 : ∀ w ∈ wsL_law0_r5, w ∈ lw_tbl := fun w h => (List.mem_append.mp ((List.take_append_drop 9 wsL_law0_r5).symm ▸ h)).elim (wsL_law_c5a w) (wsL_law_c5b w)
set_option maxRecDepth 20000 in
theorem wsL_law_c6a : ∀ w ∈ wsL_law0_r6.take 9, w ∈ lw_tbl := fun w h => (goodIn_p (wsL_law0_r6.take 9) [301, 508, 512] (by decide +kernel) (by decide +kernel) w h).1
set_option maxRecDepth 20000 in
theorem wsL_law_c6b : ∀ w ∈ wsL_law0_r6.drop 9, w ∈ lw_tbl := fun w h => (goodIn_p (wsL_law0_r6.drop 9) [516, 521, 524] (by decide +kernel) (by decide +kernel) w h).1
theorem wsL_law_c6 : ∀ w ∈ wsL_law0_r6, w ∈ lw_tbl := fun w h => (List.mem_append.mp ((List.take_append_drop 9 wsL_law0_r6).symm ▸ h)).elim (wsL_law_c6a w) (wsL_law_c6b w)
set_option maxRecDepth 20000 in
theorem wsL_law_c7a : ∀ w ∈ wsL_law0_r7.take 5, w ∈ lw_tbl := fun w h => (goodIn_p (wsL_law0_r7.take 5) [602, 606] (by decide +kernel) (by decide +kernel) w h).1
set_option maxRecDepth 20000 in
theorem wsL_law_c7b : ∀ w ∈ wsL_law0_r7.drop 5, w ∈ lw_tbl := fun w h => (goodIn_p (wsL_law0_r7.drop 5) [610, 372, 539] (by decide +kernel) (by decide +kernel) w h).1
theorem wsL_law_c7 : ∀ w ∈ wsL_law0_r7, w ∈ lw_tbl := fun w h => (List.mem_append.mp ((List.take_append_drop 5 wsL_law0_r7).symm ▸ h)).elim (wsL_law_c7a w) (wsL_law_c7b w)
set_option maxRecDepth 20000 in
theorem wsL_law_c8a : ∀ w ∈ wsL_law0_r8.take 7, w ∈ lw_tbl := fun w h => (goodIn_p (wsL_law0_r8.take 7) [344, 348] (by decide +kernel) (by decide +kernel) w h).1
