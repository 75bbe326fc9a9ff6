set_option maxRecDepth 20000 in
theorem wsL_law_c16b : ∀ w ∈ wsL_law0_r16.drop 9, w ∈ lw_tbl := fun w h => (goodIn_p (wsL_law0_r16.drop 9) [384, 389, 393] (by decide +kernel) (by decide +kernel) w h).1
theorem wsL_law_c16 : ∀ w ∈ wsL_law0_r16, w ∈ lw_tbl := fun w h => (List.mem_append.mp ((List.take_append_drop 9 wsL_law0_r16).symm ▸ h)).elim (wsL_law_c16a w) (wsL_law_c16b w)
set_option maxRecDepth 20000 in
theorem wsL_law_c17a : ∀ w ∈ wsL_law0_r17.take 9, w ∈ lw_tbl := fun w h => (goodIn_p (wsL_law0_r17.take 9) [399, 403, 408] (by decide +kernel) (by decide +kernel) w h).1
set_option maxRecDepth 20000 in
theorem wsL_law_c17b : ∀ w ∈ wsL_law0_r17.drop 9, w ∈ lw_tbl := fun w h => (goodIn_p (wsL_law0_r17.drop 9) [416, 420, 424] (by decide +kernel) (by decide +kernel) w h).1
theorem wsL_law_c17 : ∀ w ∈ wsL_law0_r17, w ∈ lw_tbl := fun w h => (List.mem_append.mp ((List.take_append_drop 9 wsL_law0_r17).symm ▸ h)).elim (wsL_law_c17a w) (wsL_law_c17b w)
set_option maxRecDepth 20000 in
theorem wsL_law_c18a : ∀ w ∈ wsL_law0_r18.take 9, w ∈ lw_tbl := fun w h => (goodIn_p (wsL_law0_r18.take 9) [428, 436, 442] (by decide +kernel) (by decide +kernel) w h).1
set_option maxRecDepth 20000 in
theorem wsL_law_c18b : ∀ w ∈ wsL_law0_r18.drop 9, w ∈ lw_tbl := fun w h => (goodIn_p (wsL_law0_r18.drop 9) [447, 451, 456] (by decide +kernel) (by decide +kernel) w h).1
theorem wsL_law_c18 : ∀ w ∈ wsL_law0_r18, w ∈ lw_tbl := fun w h => (List.mem_append.mp ((List.take_append_drop 9 wsL_law0_r18).symm ▸ h)).elim (wsL_law_c18a w) (wsL_law_c18b w)
set_option maxRecDepth 20000 in
theorem wsL_law_c19a : ∀ w ∈ wsL_law0_r19.take 10, w ∈ lw_tbl := fun w h => (goodIn_p (wsL_law0_r19.take 10) [461, 466, 471] (by decide +kernel) (by decide +kernel) w h).1
