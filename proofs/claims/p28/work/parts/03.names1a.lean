set_option maxRecDepth 20000 in
theorem wsL_law_c1 : ∀ w ∈ wsL_law0_r1, w ∈ lw_tbl := fun w h => (goodIn_p wsL_law0_r1 [39, 42, 47] (by decide +kernel) (by decide +kernel) w h).1
set_option maxRecDepth 20000 in
theorem wsL_law_c2a : ∀ w ∈ wsL_law0_r2.take 11, w ∈ lw_tbl := fun w h => (goodIn_p (wsL_law0_r2.take 11) [50, 53] (by decide +kernel) (by decide +kernel) w h).1
set_option maxRecDepth 20000 in
theorem wsL_law_c2b : ∀ w ∈ wsL_law0_r2.drop 11, w ∈ lw_tbl := fun w h => (goodIn_p (wsL_law0_r2.drop 11) [590, 594] (by decide +kernel) (by decide +kernel) w h).1
theorem wsL_law_c2 : ∀ w ∈ wsL_law0_r2, w ∈ lw_tbl := fun w h => (List.mem_append.mp ((List.take_append_drop 11 wsL_law0_r2).symm ▸ h)).elim (wsL_law_c2a w) (wsL_law_c2b w)
set_option maxRecDepth 20000 in
theorem wsL_law_c3a : ∀ w ∈ wsL_law0_r3.take 11, w ∈ lw_tbl := fun w h => (goodIn_p (wsL_law0_r3.take 11) [196, 220, 223] (by decide +kernel) (by decide +kernel) w h).1
set_option maxRecDepth 20000 in
theorem wsL_law_c3b : ∀ w ∈ wsL_law0_r3.drop 11, w ∈ lw_tbl := fun w h => (goodIn_p (wsL_law0_r3.drop 11) [226, 230, 239] (by decide +kernel) (by decide +kernel) w h).1
theorem wsL_law_c3 : ∀ w ∈ wsL_law0_r3, w ∈ lw_tbl := fun w h => (List.mem_append.mp ((List.take_append_drop 11 wsL_law0_r3).symm ▸ h)).elim (wsL_law_c3a w) (wsL_law_c3b w)
set_option maxRecDepth 20000 in
theorem wsL_law_c4a : ∀ w ∈ wsL_law0_r4.take 10, w ∈ lw_tbl := fun w h => (goodIn_p (wsL_law0_r4.take 10) [432, 598] (by decide +kernel) (by decide +kernel) w h).1
