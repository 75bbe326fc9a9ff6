/-! ONE CALL MORE: what holds of the purse after t calls -/
def wI (t n : Nat) (km mn : Int32) (rr : Nat → wr_V) : Prop := (∀ k, k < 40 → wi t (rr k)) ∧ (∀ k, n ≤ k → k < 40 → rr k = vNew 0 0) ∧ n ≤ 40 ∧ ∃ a b : Nat, a ≤ 1000 ∧ b ≤ 1000 ∧ km = nI a ∧ mn = nI b
section ST
variable {t n wk : Nat} {km mn : Int32} {rr : Nat → wr_V} {p1 p2 p3 : Int32}
theorem wI.same (h : wI t n km mn rr) : wI (t + 1) n km mn rr := ⟨fun k hk => wi_up (h.1 k hk), h.2⟩
theorem wI.up {k : Nat} {v : wr_V} (h : wI t n km mn rr) (hk : k < n) (hv : wi (t + 1) v) : wI (t + 1) n km mn (va_up rr k v) :=
  ⟨wi_all h.1 hv, fun j hj hj2 => by rw [va_up_ne _ _ (by omega)]; exact h.2.1 j hj hj2, h.2.2⟩
theorem rdC_0 {b : Bool} (h : rdC n p1 p2 b = 0) : okN n p1 = true ∧ okN 10 p2 = true ∧ b = false := by
  unfold rdC at h
  cases h1 : okN n p1 <;> cases h2 : okN 10 p2 <;> cases b <;> simp [h1, h2] at h ⊢
theorem wI_ix (h : wI t n km mn rr) (h1 : okN n p1 = true) : ix p1 < n ∧ ix p1 < 40 := by
  have := (okN_ix h1 (by have := h.2.2.1; omega)).1
  have := h.2.2.1
  omega
theorem st_book (h : wI t n km mn rr) (hc : rdC n p1 p2 (bkB (rr (ix p1)) (ix p2)) = 0) : wI (t + 1) n km mn (va_up rr (ix p1) (vBook (rr (ix p1)) (ix p2))) := by
  obtain ⟨h1, h2, h3⟩ := rdC_0 hc
  have hk := wI_ix h h1
  simp only [bkB, Bool.or_eq_false_iff, decide_eq_false_iff_not] at h3
  exact h.up hk.1 (wi_book (h.1 _ hk.2) (okN_ix h2 (by decide)).1 h3.1.1 h3.1.2.2 h3.2)
theorem st_cancel (h : wI t n km mn rr) (hc : rdC n p1 p2 (cnB (rr (ix p1)) (ix p2)) = 0) : wI (t + 1) n km mn (va_up rr (ix p1) (vDrop (rr (ix p1)) (ix p2))) := by
  obtain ⟨h1, h2, h3⟩ := rdC_0 hc
  have hk := wI_ix h h1
  exact h.up hk.1 (wi_drop (h.1 _ hk.2) (okN_ix h2 (by decide)).1)
theorem st_board (h : wI t n km mn rr) (hc : rdC n p1 p2 (bdB (rr (ix p1)) (ix p2)) = 0) : wI (t + 1) n km mn (va_up rr (ix p1) (vTake (rr (ix p1)) (ix p2))) := by
  obtain ⟨h1, h2, h3⟩ := rdC_0 hc
  have hk := wI_ix h h1
  simp only [bdB, Bool.or_eq_false_iff, Bool.and_eq_false_iff, Bool.not_eq_false', decide_eq_false_iff_not] at h3
  exact h.up hk.1 (wi_take (h.1 _ hk.2) (okN_ix h2 (by decide)).1 h3.1.1 h3.1.2 h3.2)
theorem st_leave (h : wI t n km mn rr) (hc : rdC n p1 p2 (lvB (rr (ix p1)) (ix p2)) = 0) : wI (t + 1) n km mn (va_up rr (ix p1) (vOut (rr (ix p1)) (ix p2))) := by
  obtain ⟨h1, h2, h3⟩ := rdC_0 hc
  have hk := wI_ix h h1
  exact h.up hk.1 (wi_out (h.1 _ hk.2) (okN_ix h2 (by decide)).1)
theorem st_dispute (h : wI t n km mn rr) (hc : rdC n p1 p2 (dsB (rr (ix p1)) (ix p2)) = 0) : wI (t + 1) n km mn (va_up rr (ix p1) (vDis (rr (ix p1)) (ix p2))) := by
  obtain ⟨h1, h2, h3⟩ := rdC_0 hc
  have hk := wI_ix h h1
  exact h.up hk.1 (wi_dis (h.1 _ hk.2))
theorem st_settle {bb : Bool} (h : wI t n km mn rr) (hc : slC n p1 p2 p3 (!rdp (rr (ix p1)) (ix p2) || rse (rr (ix p1)) (ix p2)) = 0) : wI (t + 1) n km mn (va_up rr (ix p1) (vRef (rr (ix p1)) (ix p2) p3 bb)) := by
  unfold slC at hc
  cases h1 : okN n p1
  · simp [h1] at hc
  · have hk := wI_ix h h1
    cases h3 : rdp (rr (ix p1)) (ix p2)
    · exfalso
      cases h2 : okN 10 p2 <;> cases h4 : rngB p3 0 100 <;> simp [h1, h2, h3, h4] at hc
    · exact h.up hk.1 (wi_ref (h.1 _ hk.2) h3)
theorem st_finish (h : wI t n km mn rr) (hc : fnC n p1 (rfi (rr (ix p1))) = 0) : wI (t + 1) n km mn (va_up rr (ix p1) (vEnd (rr (ix p1)))) := by
  unfold fnC at hc
  cases h1 : okN n p1
  · simp [h1] at hc
  · have hk := wI_ix h h1
    exact h.up hk.1 (wi_end (h.1 _ hk.2))
theorem st_start (h : wI t n km mn rr) (hc : stC rr n p1 = 0) : wI (t + 1) (n + 1) km mn (va_up rr n (vNew p1 (nI wk))) := by
  have h40 : ¬ n = 40 := fun z => by
    unfold stC at hc
    rw [decide_eq_true z] at hc
    cases h1 : okN 5 p1 <;> simp [h1] at hc
  have := h.2.2.1
  refine ⟨wi_all h.1 (wi_new _ _ _), fun j hj hj2 => ?_, by omega, h.2.2.2⟩
  rw [va_up_ne _ _ (by omega)]; exact h.2.1 j (by omega) hj2
theorem rng_nI {x : Int32} {k : Nat} (hk : k < 2 ^ 31) (h : rngB x 0 (nI k) = true) : ∃ j : Nat, j ≤ k ∧ x = nI j := by
  simp only [rngB, Bool.and_eq_true, decide_eq_true_eq] at h
  obtain ⟨j, hj, rfl⟩ := nI_of (Int32.not_lt.mpr h.1)
  exact ⟨j, (nI_leI hj hk).mp h.2, rfl⟩
theorem st_setRates (h : wI t n km mn rr) (hc : srC p1 p2 = 0) : wI (t + 1) n p1 p2 rr := by
  unfold srC at hc
  cases h1 : rngB p1 0 1000
  · simp [h1] at hc
  · cases h2 : rngB p2 0 1000
    · simp [h1, h2] at hc
    · obtain ⟨a, ha, rfl⟩ := rng_nI (k := 1000) (by decide) h1
      obtain ⟨b, hb, rfl⟩ := rng_nI (k := 1000) (by decide) h2
      exact ⟨h.same.1, h.2.1, h.2.2.1, a, b, ha, hb, rfl, rfl⟩
theorem st_drive (h : wI t n km mn rr) (ht : t ≤ 512) (hc : dvC n p1 p2 p3 (rfi (rr (ix p1))) = 0) : wI (t + 1) n km mn (va_up rr (ix p1) (vStr (rr (ix p1)) (p2 * km + p3 * mn) p3)) := by
  unfold dvC at hc
  cases h1 : okN n p1
  · simp [h1] at hc
  · have hk := wI_ix h h1
    cases h2 : rngB p2 0 100
    · simp [h1, h2] at hc
    · cases h3 : rngB p3 1 120
      · simp [h1, h2, h3] at hc
      · obtain ⟨d, hd, rfl⟩ := rng_nI (k := 100) (by decide) h2
        have h3' : rngB p3 0 120 = true := by
          simp only [rngB, Bool.and_eq_true, decide_eq_true_eq] at h3 ⊢
          exact ⟨Int32.le_trans (by decide) h3.1, h3.2⟩
        obtain ⟨m, hm, rfl⟩ := rng_nI (k := 120) (by decide) h3'
        obtain ⟨a, b, ha, hb, rfl, rfl⟩ := h.2.2.2
        have e : nI d * nI a + nI m * nI b = nI (d * a + m * b) := by rw [pk_mul, pk_mul, nI_add]
        rw [e]
        refine h.up hk.1 (wi_str (h.1 _ hk.2) ht ?_ hm)
        have q1 : d * a ≤ 100 * 1000 := Nat.mul_le_mul hd ha
        have q2 : m * b ≤ 120 * 1000 := Nat.mul_le_mul hm hb
        omega
theorem wI_0 : wI 0 0 100 20 (fun _ => vNew 0 0) := ⟨fun k hk => wi_new _ _ _, fun k _ _ => rfl, by decide, 100, 20, by decide, by decide, rfl, rfl⟩
end ST
