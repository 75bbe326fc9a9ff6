set_option maxRecDepth 20000 in
theorem wsL_law_c1 : ∀ w ∈ wsL_law0_r1, w ∈ lw_tbl := fun w h => (goodIn_p wsL_law0_r1 [39, 42, 47] (by decide +kernel) (by decide +kernel) w h).1
set_option maxRecDepth 20000 in
theorem wsL_law_c2 : ∀ w ∈ wsL_law0_r2, w ∈ lw_tbl := List.forall_mem_cons.mpr ⟨by decide +kernel, List.forall_mem_cons.mpr ⟨by decide +kernel, List.forall_mem_cons.mpr ⟨by decide +kernel, List.forall_mem_cons.mpr ⟨by decide +kernel, List.forall_mem_cons.mpr ⟨by decide +kernel, List.forall_mem_cons.mpr ⟨List.mem_of_getElem? (i := 50) (by decide +kernel), List.forall_mem_cons.mpr ⟨by decide +kernel, List.forall_mem_cons.mpr ⟨by decide +kernel, List.forall_mem_cons.mpr ⟨by decide +kernel, List.forall_mem_cons.mpr ⟨by decide +kernel, List.forall_mem_cons.mpr ⟨List.mem_of_getElem? (i := 53) (by decide +kernel), List.forall_mem_cons.mpr ⟨by decide +kernel, List.forall_mem_cons.mpr ⟨by decide +kernel, List.forall_mem_cons.mpr ⟨by decide +kernel, List.forall_mem_cons.mpr ⟨by decide +kernel, List.forall_mem_cons.mpr ⟨List.mem_append_right _ (List.mem_append_right _ (List.mem_append_right _ (List.mem_of_getElem? (l := tables_1_3) (i := 94) rfl))), List.forall_mem_cons.mpr ⟨by decide +kernel, List.forall_mem_cons.mpr ⟨by decide +kernel, List.forall_mem_cons.mpr ⟨by decide +kernel, List.forall_mem_cons.mpr ⟨by decide +kernel, List.forall_mem_cons.mpr ⟨List.mem_of_getElem? (i := 594) (by decide +kernel), List.forall_mem_cons.mpr ⟨by decide +kernel, List.forall_mem_cons.mpr ⟨by decide +kernel, List.forall_mem_cons.mpr ⟨by decide +kernel, fun _ h => absurd h List.not_mem_nil⟩⟩⟩⟩⟩⟩⟩⟩⟩⟩⟩⟩⟩⟩⟩⟩⟩⟩⟩⟩⟩⟩⟩⟩
set_option maxRecDepth 20000 in
theorem wsL_law_c3a : ∀ w ∈ wsL_law0_r3.take 11, w ∈ lw_tbl := fun w h => (goodIn_p (wsL_law0_r3.take 11) [196, 220, 223] (by decide +kernel) (by decide +kernel) w h).1
set_option maxRecDepth 20000 in
theorem wsL_law_c3b : ∀ w ∈ wsL_law0_r3.drop 11, w ∈ lw_tbl := fun w h => (goodIn_p (wsL_law0_r3.drop 11) [226, 230, 239] (by decide +kernel) (by decide +kernel) w h).1
theorem wsL_law_c3 : ∀ w ∈ wsL_law0_r3, w ∈ lw_tbl := fun w h => (List.mem_append.mp ((List.take_append_drop 11 wsL_law0_r3).symm ▸ h)).elim (wsL_law_c3a w) (wsL_law_c3b w)
set_option maxRecDepth 20000 in
theorem wsL_law_c4a : ∀ w ∈ wsL_law0_r4.take 10, w ∈ lw_tbl := fun w h => (goodIn_p (wsL_law0_r4.take 10) [432, 598] (by decide +kernel) (by decide +kernel) w h).1
set_option maxRecDepth 20000 in
theorem wsL_law_c4b : ∀ w ∈ wsL_law0_r4.drop 10, w ∈ lw_tbl := fun w h => (goodIn_p (wsL_law0_r4.drop 10) [480, 484, 488] (by decide +kernel) (by decide +kernel) w h).1
theorem wsL_law_c4 : ∀ w ∈ wsL_law0_r4, w ∈ lw_tbl := fun w h => (List.mem_append.mp ((List.take_append_drop 10 wsL_law0_r4).symm ▸ h)).elim (wsL_law_c4a w) (wsL_law_c4b w)
set_option maxRecDepth 20000 in
theorem wsL_law_c5a : ∀ w ∈ wsL_law0_r5.take 9, w ∈ lw_tbl := fun w h => (goodIn_p (wsL_law0_r5.take 9) [492, 496] (by decide +kernel) (by decide +kernel) w h).1
