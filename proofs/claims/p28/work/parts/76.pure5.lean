/-! seats: answers -/
section PJ5
variable {v : wr_V} {r : Nat}
theorem bk_c (h : bkB v r = false) : rfi v = false ∧ rbk v r = false ∧ rsd v r = false ∧ ¬ freeR v ≤ 0 := by
  simp only [bkB, Bool.or_eq_false_iff, decide_eq_false_iff_not] at h
  exact ⟨h.1.1, h.1.2.1, h.1.2.2, h.2⟩
theorem cn_c (h : cnB v r = false) : rfi v = false ∧ rbk v r = true := by
  simp only [cnB, Bool.or_eq_false_iff, Bool.not_eq_false'] at h
  exact h
theorem bd_c (h : bdB v r = false) : rfi v = false ∧ rsd v r = false := by
  simp only [bdB, Bool.or_eq_false_iff] at h
  exact h.1
theorem lv_c (h : lvB v r = false) : rfi v = false ∧ rsd v r = true := by
  simp only [lvB, Bool.or_eq_false_iff, Bool.not_eq_false'] at h
  exact h
theorem bkv_f {x : Bool} (hf : rfi v = false) (h : bkv v r = x) : rbk v r = x := by
  unfold bkv at h; rw [hf] at h; simpa using h
theorem cb_t (b : Nat → Bool) (hr : r < 10) (h : b r = false) : cb (va_up b r true) 10 = cb b 10 + 1 := by
  have := cb_set b (k := r) true 10
  simp [hr, h] at this
  omega
theorem P_fb (hr : r < 10) (h : rbk v r = false) : freeR (vBook v r) = freeR v - 1 := by
  show 4 - nI (cb (va_up (rbk v) r true) 10) - nI (cb (rsd v) 10) = 4 - nI (cb (rbk v) 10) - nI (cb (rsd v) 10) - 1
  rw [cb_t _ hr h, ← nI_1, wy_subadd, wy_subadd, wy_subadd, Int32.add_assoc, Int32.add_comm 1]
theorem P_fee : feeR v = 250 * bI (hdv v) := by
  unfold feeR hdv
  by_cases h : rmi v = 0
  · rw [if_pos h, decide_eq_true h]; decide
  · rw [if_neg h, decide_eq_false h]; decide
theorem P_tk (hr : r < 10) (h : rsd v r = false) : nI (cb (va_up (rsd v) r true) 10) = nI (cb (fun i => decide (i < 10) && rsd v i) 20) + 1 := by
  rw [cb_20, cb_t _ hr h, nI_1]
end PJ5
