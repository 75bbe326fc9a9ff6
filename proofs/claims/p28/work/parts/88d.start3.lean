theorem ws_R {s : State} {args : Array Value} (hts : ∀ w ∈ lw_tbl, w.before args s = true) (hg : (Cond.and given_1 narrow_1).before args s = true) : ∀ q ∈ wt_st, ∃ a : Nat, vk_R RX1 q.1 q.2 a s := by
  intro q hq
  have hf := flat_of_before _ hg
  have h1 := hts _ ((by decide +kernel : ∀ q ∈ wt_st, Cond.stringRef RX1 q.1 q.2 ∈ lw_tbl) q hq)
  have h2 := hf _ ((by decide +kernel : ∀ q ∈ wt_st, Cond.exactly (.string RX1 q.1) "java/lang/String" ∈ flatC (Cond.and given_1 narrow_1)) q hq)
  obtain ⟨a, c, cell, k, e, -⟩ := Cond.exactly_spec h2
  exact ⟨a, vk_R.of (A := args) h1 e⟩
theorem ws_E {s : State} {args : Array Value} (hts : ∀ w ∈ lw_tbl, w.before args s = true) (hg : (Cond.and given_1 narrow_1).before args s = true) : wt_E (lwA s) s := by
  obtain ⟨h1, h2, h3, h4⟩ := ws_Z hts hg
  exact ⟨h1, h2, h3, h4, ws_R hts hg⟩
