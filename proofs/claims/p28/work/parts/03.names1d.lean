set_option maxRecDepth 20000 in
theorem wsL_law_c10b : ∀ w ∈ wsL_law0_r10.drop 6, w ∈ lw_tbl := fun w h => (goodIn_p (wsL_law0_r10.drop 6) [563, 476, 567] (by decide +kernel) (by decide +kernel) w h).1
theorem wsL_law_c10 : ∀ w ∈ wsL_law0_r10, w ∈ lw_tbl := fun w h => (List.mem_append.mp ((List.take_append_drop 6 wsL_law0_r10).symm ▸ h)).elim (wsL_law_c10a w) (wsL_law_c10b w)
set_option maxRecDepth 20000 in
theorem wsL_law_c11a : ∀ w ∈ wsL_law0_r11.take 11, w ∈ lw_tbl := fun w h => (goodIn_p (wsL_law0_r11.take 11) [531, 535, 543] (by decide +kernel) (by decide +kernel) w h).1
set_option maxRecDepth 20000 in
theorem wsL_law_c11b : ∀ w ∈ wsL_law0_r11.drop 11, w ∈ lw_tbl := fun w h => (goodIn_p (wsL_law0_r11.drop 11) [613, 616, 619, 622] (by decide +kernel) (by decide +kernel) w h).1
theorem wsL_law_c11 : ∀ w ∈ wsL_law0_r11, w ∈ lw_tbl := fun w h => (List.mem_append.mp ((List.take_append_drop 11 wsL_law0_r11).symm ▸ h)).elim (wsL_law_c11a w) (wsL_law_c11b w)
set_option maxRecDepth 20000 in
theorem wsL_law_c12a : ∀ w ∈ wsL_law0_r12.take 10, w ∈ lw_tbl := fun w h => (goodIn_p (wsL_law0_r12.take 10) [94, 98] (by decide +kernel) (by decide +kernel) w h).1
set_option maxRecDepth 20000 in
theorem wsL_law_c12b : ∀ w ∈ wsL_law0_r12.drop 10, w ∈ lw_tbl := fun w h => (goodIn_p (wsL_law0_r12.drop 10) [173, 216, 235] (by decide +kernel) (by decide +kernel) w h).1
theorem wsL_law_c12 : ∀ w ∈ wsL_law0_r12, w ∈ lw_tbl := fun w h => (List.mem_append.mp ((List.take_append_drop 10 wsL_law0_r12).symm ▸ h)).elim (wsL_law_c12a w) (wsL_law_c12b w)
set_option maxRecDepth 20000 in
theorem wsL_law_c13a : ∀ w ∈ wsL_law0_r13.take 8, w ∈ lw_tbl := fun w h => (goodIn_p (wsL_law0_r13.take 8) [244, 283] (by decide +kernel) (by decide +kernel) w h).1
