set_option maxRecDepth 20000 in
theorem wsL_law_c13b : ∀ w ∈ wsL_law0_r13.drop 8, w ∈ lw_tbl := fun w h => (goodIn_p (wsL_law0_r13.drop 8) [287, 291, 295] (by decide +kernel) (by decide +kernel) w h).1
theorem wsL_law_c13 : ∀ w ∈ wsL_law0_r13, w ∈ lw_tbl := fun w h => (List.mem_append.mp ((List.take_append_drop 8 wsL_law0_r13).symm ▸ h)).elim (wsL_law_c13a w) (wsL_law_c13b w)
set_option maxRecDepth 20000 in
theorem wsL_law_c14a : ∀ w ∈ wsL_law0_r14.take 9, w ∈ lw_tbl := fun w h => (goodIn_p (wsL_law0_r14.take 9) [298, 305] (by decide +kernel) (by decide +kernel) w h).1
set_option maxRecDepth 20000 in
theorem wsL_law_c14b : ∀ w ∈ wsL_law0_r14.drop 9, w ∈ lw_tbl := fun w h => (goodIn_p (wsL_law0_r14.drop 9) [308, 321] (by decide +kernel) (by decide +kernel) w h).1
theorem wsL_law_c14 : ∀ w ∈ wsL_law0_r14, w ∈ lw_tbl := fun w h => (List.mem_append.mp ((List.take_append_drop 9 wsL_law0_r14).symm ▸ h)).elim (wsL_law_c14a w) (wsL_law_c14b w)
set_option maxRecDepth 20000 in
theorem wsL_law_c15a : ∀ w ∈ wsL_law0_r15.take 9, w ∈ lw_tbl := fun w h => (goodIn_p (wsL_law0_r15.take 9) [327, 336] (by decide +kernel) (by decide +kernel) w h).1
set_option maxRecDepth 20000 in
theorem wsL_law_c15b : ∀ w ∈ wsL_law0_r15.drop 9, w ∈ lw_tbl := fun w h => (goodIn_p (wsL_law0_r15.drop 9) [340, 352, 357] (by decide +kernel) (by decide +kernel) w h).1
theorem wsL_law_c15 : ∀ w ∈ wsL_law0_r15, w ∈ lw_tbl := fun w h => (List.mem_append.mp ((List.take_append_drop 9 wsL_law0_r15).symm ▸ h)).elim (wsL_law_c15a w) (wsL_law_c15b w)
set_option maxRecDepth 20000 in
theorem wsL_law_c16a : ∀ w ∈ wsL_law0_r16.take 9, w ∈ lw_tbl := fun w h => (goodIn_p (wsL_law0_r16.take 9) [364, 369, 380] (by decide +kernel) (by decide +kernel) w h).1
