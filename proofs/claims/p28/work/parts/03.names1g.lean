set_option maxRecDepth 20000 in
theorem wsL_law_c19b : ∀ w ∈ wsL_law0_r19.drop 10, w ∈ lw_tbl := fun w h => (goodIn_p (wsL_law0_r19.drop 10) [626, 629, 633, 636] (by decide +kernel) (by decide +kernel) w h).1
theorem wsL_law_c19 : ∀ w ∈ wsL_law0_r19, w ∈ lw_tbl := fun w h => (List.mem_append.mp ((List.take_append_drop 10 wsL_law0_r19).symm ▸ h)).elim (wsL_law_c19a w) (wsL_law_c19b w)
set_option maxRecDepth 20000 in
theorem wsL_law_c20 : ∀ w ∈ wsL_law0_r20, w ∈ lw_tbl := fun w h => (goodIn_p wsL_law0_r20 [640] (by decide +kernel) (by decide +kernel) w h).1
