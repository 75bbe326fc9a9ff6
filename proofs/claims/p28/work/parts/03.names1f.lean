set_option maxRecDepth 20000 in
theorem wsL_law_c_wsX10 : ∀ w ∈ wsX10, w ∈ lw_tbl := by decide +kernel
set_option maxRecDepth 20000 in
theorem wsL_law_c_wsJx4a65c0 : ∀ w ∈ wsJx4a65c0, w ∈ lw_tbl := by decide +kernel
set_option maxRecDepth 20000 in
theorem wsL_law_c_wsX00 : ∀ w ∈ wsX00, w ∈ lw_tbl := by decide +kernel
theorem wsL_law_in0 : ∀ w ∈ wsL_law0, w ∈ lw_tbl := List.forall_mem_append.mpr ⟨List.forall_mem_append.mpr ⟨List.forall_mem_append.mpr ⟨List.forall_mem_append.mpr ⟨List.forall_mem_append.mpr ⟨wsL_law_c1, List.forall_mem_append.mpr ⟨wsL_law_c2, List.forall_mem_append.mpr ⟨wsL_law_c3, List.forall_mem_append.mpr ⟨wsL_law_c4, List.forall_mem_append.mpr ⟨wsL_law_c5, List.forall_mem_append.mpr ⟨wsL_law_c6, List.forall_mem_append.mpr ⟨wsL_law_c7, List.forall_mem_append.mpr ⟨wsL_law_c8, List.forall_mem_append.mpr ⟨wsL_law_c9, List.forall_mem_append.mpr ⟨wsL_law_c10, List.forall_mem_append.mpr ⟨wsL_law_c11, List.forall_mem_append.mpr ⟨wsL_law_c12, List.forall_mem_append.mpr ⟨wsL_law_c13, List.forall_mem_append.mpr ⟨wsL_law_c14, List.forall_mem_append.mpr ⟨wsL_law_c15, List.forall_mem_append.mpr ⟨wsL_law_c16, List.forall_mem_append.mpr ⟨wsL_law_c17, List.forall_mem_append.mpr ⟨wsL_law_c18, List.forall_mem_append.mpr ⟨wsL_law_c19, wsL_law_c20⟩⟩⟩⟩⟩⟩⟩⟩⟩⟩⟩⟩⟩⟩⟩⟩⟩⟩⟩, wsL_law_c_wsX10⟩, wsL_law_c_wsJx4a65c0⟩, wsL_law_c_wsX00⟩, fun _ h => absurd h List.not_mem_nil⟩
theorem wsL_law_x0 : ∀ w ∈ (vx_atS RX1 228 "java/lang/IndexOutOfBoundsException" ["java/lang/RuntimeException", "java/lang/Exception"]).filter goodWord, w ∈ lw_tbl := by decide +kernel
theorem wsL_law_x1 : ∀ w ∈ (vx_atS RX1 46 "java/lang/IllegalStateException" ["java/lang/RuntimeException", "java/lang/Exception"]).filter goodWord, w ∈ lw_tbl := by decide +kernel
theorem wsL_law_x2 : ∀ w ∈ (vx_atS RX1 239 "java/lang/IllegalArgumentException" ["java/lang/RuntimeException", "java/lang/Exception"]).filter goodWord, w ∈ lw_tbl := by decide +kernel
theorem wsL_law_in : ∀ w ∈ wsL_law, w ∈ lw_tbl := fun w h => (List.mem_append.mp h).elim (fun h => (List.mem_append.mp h).elim (fun h => (List.mem_append.mp h).elim (fun h => wsL_law_in0 w h) (fun h => wsL_law_x0 w h)) (fun h => wsL_law_x1 w h)) (fun h => wsL_law_x2 w h)
theorem inlX0 : ∀ w ∈ wsX00, w ∈ wsL_law := fun _ h => List.mem_append_left _ (List.mem_append_left _ (List.mem_append_left _ (List.mem_append_left _ (List.mem_append_right _ h))))
theorem inX0 : ∀ w ∈ wsX00, w ∈ lw_tbl := fun w h => wsL_law_in w (inlX0 w h)
theorem inlX1 : ∀ w ∈ wsX10, w ∈ wsL_law := fun _ h => List.mem_append_left _ (List.mem_append_left _ (List.mem_append_left _ (List.mem_append_left _ (List.mem_append_left _ (List.mem_append_left _ (List.mem_append_right _ h))))))
theorem inX1 : ∀ w ∈ wsX10, w ∈ lw_tbl := fun w h => wsL_law_in w (inlX1 w h)
theorem inX2 : ∀ w ∈ wsX20, w ∈ lw_tbl := by decide +kernel
theorem inJx145de : ∀ w ∈ wsJx145de0, w ∈ lw_tbl := by decide +kernel
theorem inJx8e188 : ∀ w ∈ wsJx8e1880, w ∈ lw_tbl := by decide +kernel
theorem inJ6 : ∀ w ∈ wsJ60, w ∈ lw_tbl := by decide +kernel
theorem inJxab1ab : ∀ w ∈ wsJxab1ab0, w ∈ lw_tbl := by decide +kernel
theorem inJ9 : ∀ w ∈ wsJ90, w ∈ lw_tbl := by decide +kernel
theorem inJ0 : ∀ w ∈ wsJ00, w ∈ lw_tbl := by decide +kernel
theorem inJ10 : ∀ w ∈ wsJ100, w ∈ lw_tbl := by decide +kernel
theorem inJxa1e45 : ∀ w ∈ wsJxa1e450, w ∈ lw_tbl := by decide +kernel
theorem inJxc12de : ∀ w ∈ wsJxc12de0, w ∈ lw_tbl := by decide +kernel
theorem inlJx4a65c : ∀ w ∈ wsJx4a65c0, w ∈ wsL_law := fun _ h => List.mem_append_left _ (List.mem_append_left _ (List.mem_append_left _ (List.mem_append_left _ (List.mem_append_left _ (List.mem_append_right _ h)))))
theorem inJx4a65c : ∀ w ∈ wsJx4a65c0, w ∈ lw_tbl := fun w h => wsL_law_in w (inlJx4a65c w h)
theorem inJ7 : ∀ w ∈ wsJ70, w ∈ lw_tbl := by decide +kernel
theorem inJx5ef63 : ∀ w ∈ wsJx5ef630, w ∈ lw_tbl := by decide +kernel
theorem inJxbd725 : ∀ w ∈ wsJxbd7250, w ∈ lw_tbl := by decide +kernel
theorem inJ15 : ∀ w ∈ wsJ150, w ∈ lw_tbl := by decide +kernel
theorem inJxf0a74 : ∀ w ∈ wsJxf0a740, w ∈ lw_tbl := by decide +kernel
theorem inJxa66e6 : ∀ w ∈ wsJxa66e60, w ∈ lw_tbl := by decide +kernel
theorem inJ8 : ∀ w ∈ wsJ80, w ∈ lw_tbl := by decide +kernel
theorem inJ3 : ∀ w ∈ wsJ30, w ∈ lw_tbl := by decide +kernel
theorem dX0_init_0 : decode cX0_init 0 = .ok (.aload_n 0, 1) := by decide +kernel
theorem dX0_init_1 : decode cX0_init 1 = .ok (.invokespecial 3, 3) := by decide +kernel
theorem dX0_init_4 : decode cX0_init 4 = .ok (.aload_n 0, 1) := by decide +kernel
theorem dX0_init_5 : decode cX0_init 5 = .ok (.iload_n 1, 1) := by decide +kernel
theorem dX0_init_6 : decode cX0_init 6 = .ok (.putfield 9, 3) := by decide +kernel
theorem dX0_init_9 : decode cX0_init 9 = .ok (.aload_n 0, 1) := by decide +kernel
theorem dX0_init_10 : decode cX0_init 10 = .ok (.iload_n 2, 1) := by decide +kernel
theorem dX0_init_11 : decode cX0_init 11 = .ok (.putfield 15, 3) := by decide +kernel
theorem dX0_init_14 : decode cX0_init 14 = .ok (.aload_n 0, 1) := by decide +kernel
theorem dX0_init_15 : decode cX0_init 15 = .ok (.bipush 10, 2) := by decide +kernel
theorem dX0_init_17 : decode cX0_init 17 = .ok (.newarray .int, 2) := by decide +kernel
theorem dX0_init_19 : decode cX0_init 19 = .ok (.putfield 18, 3) := by decide +kernel
theorem dX0_init_22 : decode cX0_init 22 = .ok (.aload_n 0, 1) := by decide +kernel
theorem dX0_init_23 : decode cX0_init 23 = .ok (.bipush 10, 2) := by decide +kernel
theorem dX0_init_25 : decode cX0_init 25 = .ok (.newarray .int, 2) := by decide +kernel
theorem dX0_init_27 : decode cX0_init 27 = .ok (.putfield 22, 3) := by decide +kernel
theorem dX0_init_30 : decode cX0_init 30 = .ok (.return_, 1) := by decide +kernel
theorem dX0_holds_0 : decode cX0_holds 0 = .ok (.iload_n 0, 1) := by decide +kernel
theorem dX0_holds_1 : decode cX0_holds 1 = .ok (.iload_n 1, 1) := by decide +kernel
theorem dX0_holds_2 : decode cX0_holds 2 = .ok (.ishr, 1) := by decide +kernel
theorem dX0_holds_3 : decode cX0_holds 3 = .ok (.iconst 1, 1) := by decide +kernel
theorem dX0_holds_4 : decode cX0_holds 4 = .ok (.iand, 1) := by decide +kernel
theorem dX0_holds_5 : decode cX0_holds 5 = .ok (.ifCond .eq 7, 3) := by decide +kernel
theorem dX0_holds_8 : decode cX0_holds 8 = .ok (.iconst 1, 1) := by decide +kernel
theorem dX0_holds_9 : decode cX0_holds 9 = .ok (.goto 4, 3) := by decide +kernel
theorem dX0_holds_12 : decode cX0_holds 12 = .ok (.iconst 0, 1) := by decide +kernel
theorem dX0_holds_13 : decode cX0_holds 13 = .ok (.ireturn, 1) := by decide +kernel
theorem dX0_isFinished_0 : decode cX0_isFinished 0 = .ok (.aload_n 0, 1) := by decide +kernel
theorem dX0_isFinished_1 : decode cX0_isFinished 1 = .ok (.getfield 25, 3) := by decide +kernel
theorem dX0_isFinished_4 : decode cX0_isFinished 4 = .ok (.ireturn, 1) := by decide +kernel
theorem dX0_isDrivenBy_0 : decode cX0_isDrivenBy 0 = .ok (.aload_n 0, 1) := by decide +kernel
theorem dX0_isDrivenBy_1 : decode cX0_isDrivenBy 1 = .ok (.getfield 9, 3) := by decide +kernel
theorem dX0_isDrivenBy_4 : decode cX0_isDrivenBy 4 = .ok (.iload_n 1, 1) := by decide +kernel
theorem dX0_isDrivenBy_5 : decode cX0_isDrivenBy 5 = .ok (.if_icmp .ne 7, 3) := by decide +kernel
theorem dX0_isDrivenBy_8 : decode cX0_isDrivenBy 8 = .ok (.iconst 1, 1) := by decide +kernel
theorem dX0_isDrivenBy_9 : decode cX0_isDrivenBy 9 = .ok (.goto 4, 3) := by decide +kernel
theorem dX0_isDrivenBy_12 : decode cX0_isDrivenBy 12 = .ok (.iconst 0, 1) := by decide +kernel
theorem dX0_isDrivenBy_13 : decode cX0_isDrivenBy 13 = .ok (.ireturn, 1) := by decide +kernel
theorem dX0_isFinishedBy_0 : decode cX0_isFinishedBy 0 = .ok (.aload_n 0, 1) := by decide +kernel
theorem dX0_isFinishedBy_1 : decode cX0_isFinishedBy 1 = .ok (.getfield 25, 3) := by decide +kernel
theorem dX0_isFinishedBy_4 : decode cX0_isFinishedBy 4 = .ok (.ifCond .eq 23, 3) := by decide +kernel
theorem dX0_isFinishedBy_7 : decode cX0_isFinishedBy 7 = .ok (.aload_n 0, 1) := by decide +kernel
theorem dX0_isFinishedBy_8 : decode cX0_isFinishedBy 8 = .ok (.getfield 9, 3) := by decide +kernel
theorem dX0_isFinishedBy_11 : decode cX0_isFinishedBy 11 = .ok (.iload_n 1, 1) := by decide +kernel
theorem dX0_isFinishedBy_12 : decode cX0_isFinishedBy 12 = .ok (.if_icmp .ne 15, 3) := by decide +kernel
theorem dX0_isFinishedBy_15 : decode cX0_isFinishedBy 15 = .ok (.aload_n 0, 1) := by decide +kernel
theorem dX0_isFinishedBy_16 : decode cX0_isFinishedBy 16 = .ok (.getfield 15, 3) := by decide +kernel
theorem dX0_isFinishedBy_19 : decode cX0_isFinishedBy 19 = .ok (.iload_n 2, 1) := by decide +kernel
theorem dX0_isFinishedBy_20 : decode cX0_isFinishedBy 20 = .ok (.if_icmp .ne 7, 3) := by decide +kernel
theorem dX0_isFinishedBy_23 : decode cX0_isFinishedBy 23 = .ok (.iconst 1, 1) := by decide +kernel
theorem dX0_isFinishedBy_24 : decode cX0_isFinishedBy 24 = .ok (.goto 4, 3) := by decide +kernel
theorem dX0_isFinishedBy_27 : decode cX0_isFinishedBy 27 = .ok (.iconst 0, 1) := by decide +kernel
theorem dX0_isFinishedBy_28 : decode cX0_isFinishedBy 28 = .ok (.ireturn, 1) := by decide +kernel
set_option maxRecDepth 20000 in
theorem ggX0_hasBooked_X0_holds : GoodIn wsX0_hasBooked wsX0_holds := goodIn_r _ [5] (by decide +kernel) (by decide +kernel)
set_option maxRecDepth 20000 in
theorem gX0_hasBooked_X0_holds : GoodIn wsX0_hasBooked (va_wsS RX0 32 yX0_holds wsX0_holds) := goodIn_app (goodIn_of _ (by decide +kernel)) ggX0_hasBooked_X0_holds
theorem dX0_hasBooked_0 : decode cX0_hasBooked 0 = .ok (.aload_n 0, 1) := by decide +kernel
theorem dX0_hasBooked_1 : decode cX0_hasBooked 1 = .ok (.getfield 29, 3) := by decide +kernel
theorem dX0_hasBooked_4 : decode cX0_hasBooked 4 = .ok (.iload_n 1, 1) := by decide +kernel
theorem dX0_hasBooked_5 : decode cX0_hasBooked 5 = .ok (.invokestatic 32, 3) := by decide +kernel
theorem dX0_hasBooked_8 : decode cX0_hasBooked 8 = .ok (.ireturn, 1) := by decide +kernel
set_option maxRecDepth 20000 in
theorem ggX0_hasAboard_X0_holds : GoodIn wsX0_hasAboard wsX0_holds := goodIn_r _ [5] (by decide +kernel) (by decide +kernel)
set_option maxRecDepth 20000 in
theorem gX0_hasAboard_X0_holds : GoodIn wsX0_hasAboard (va_wsS RX0 32 yX0_holds wsX0_holds) := goodIn_app (goodIn_of _ (by decide +kernel)) ggX0_hasAboard_X0_holds
theorem dX0_hasAboard_0 : decode cX0_hasAboard 0 = .ok (.aload_n 0, 1) := by decide +kernel
theorem dX0_hasAboard_1 : decode cX0_hasAboard 1 = .ok (.getfield 36, 3) := by decide +kernel
theorem dX0_hasAboard_4 : decode cX0_hasAboard 4 = .ok (.iload_n 1, 1) := by decide +kernel
theorem dX0_hasAboard_5 : decode cX0_hasAboard 5 = .ok (.invokestatic 32, 3) := by decide +kernel
theorem dX0_hasAboard_8 : decode cX0_hasAboard 8 = .ok (.ireturn, 1) := by decide +kernel
set_option maxRecDepth 20000 in
theorem ggX0_hasDisputed_X0_holds : GoodIn wsX0_hasDisputed wsX0_holds := goodIn_r _ [5] (by decide +kernel) (by decide +kernel)
set_option maxRecDepth 20000 in
theorem gX0_hasDisputed_X0_holds : GoodIn wsX0_hasDisputed (va_wsS RX0 32 yX0_holds wsX0_holds) := goodIn_app (goodIn_of _ (by decide +kernel)) ggX0_hasDisputed_X0_holds
