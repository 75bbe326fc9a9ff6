/-! the closing of a week, seen by the law -/
def canI (rr : Nat → wr_V) (wk i : Nat) : Bool := decide (wk < 20) && !anyB (fun k => !rfi (rr k)) i
section PJ9
variable {t n wk : Nat} {km mn : Int32} {po : Nat → Int32} {rr : Nat → wr_V} {d v o f g : Nat → Int32} {k i : Nat} {p : Int32}
theorem can_0t (h : wk < 20) : (1 : Int32) = bI (canI rr wk 0) := by simp [canI, anyB, h, bI]
theorem can_0f (h : ¬ wk < 20) : (0 : Int32) = bI (canI rr wk 0) := by simp [canI, h, bI]
theorem can_t (h : canI rr wk i = true) (hf : rfi (rr i) = true) : (1 : Int32) = bI (canI rr wk (i + 1)) := by
  simp only [canI, Bool.and_eq_true, decide_eq_true_eq, Bool.not_eq_true'] at h
  simp [canI, anyB, h.1, h.2, hf, bI]
theorem can_f1 (h : canI rr wk i = false) : (0 : Int32) = bI (canI rr wk (i + 1)) := by
  have : canI rr wk (i + 1) = false := by
    cases z : canI rr wk (i + 1) with
    | false => rfl
    | true =>
      simp only [canI, anyB, Bool.and_eq_true, decide_eq_true_eq, Bool.not_eq_true', Bool.or_eq_false_iff] at z
      simp [canI, z.1, z.2.1] at h
  rw [this]; rfl
theorem can_f2 (hf : rfi (rr i) = false) : (0 : Int32) = bI (canI rr wk (i + 1)) := by simp [canI, anyB, hf, bI]
theorem cw_0 (h : canI rr wk n = true) : cwC rr n wk = 0 := by
  simp only [canI, Bool.and_eq_true, decide_eq_true_eq, Bool.not_eq_true'] at h
  have h2 : undS rr n = false := h.2
  have : ¬ wk = 20 := by omega
  simp [cwC, h2, this]
theorem can_wk (h : canI rr wk n = true) : wk < 20 := by
  simp only [canI, Bool.and_eq_true, decide_eq_true_eq] at h
  exact h.1
theorem cw_1 (h : canI rr wk n = false) (hw : wk ≤ 20) : cwC rr n wk = 1 := by
  unfold cwC
  by_cases z : wk < 20
  · have h2 : undS rr n = true := by
      cases y : undS rr n with
      | true => rfl
      | false =>
        have y2 : anyB (fun k => !rfi (rr k)) n = false := y
        simp [canI, z, y2] at h
    simp [h2]
  · simp [show wk = 20 by omega]
theorem W_its : dueS rr n po wk k + payS rr n (nI k) (nI wk) = dueW rr n po wk k := by
  unfold dueS dueW
  show payB rr n (nI k) wk - po k + payS rr n (nI k) (nI wk) = payB rr n (nI k) wk + payS rr n (nI k) (nI wk) - po k
  rw [Int32.sub_eq_add_neg, Int32.sub_eq_add_neg, Int32.add_assoc, Int32.add_assoc, Int32.add_comm (-po k)]
theorem W_st0 (h : ¬ 0 < dueW rr n po wk k) : totW rr n po wk k + 0 = totW rr n po wk (k + 1) := by
  unfold totW
  simp only [bx_sum]
  rw [if_neg h]
theorem W_st1 (h : 0 < dueW rr n po wk k) : totW rr n po wk k + dueW rr n po wk k = totW rr n po wk (k + 1) := by
  unfold totW
  simp only [bx_sum]
  rw [if_pos h]
theorem wk_no (hJ : wJ t n km mn wk po rr) (hk : k < n) : fby rr p (nI (wk + 1)) k = false := by
  obtain ⟨w, h1, h2⟩ := (hJ.2.2.2.1 k hk).1
  have hw := hJ.2.2.1
  have z : ¬ rwk (rr k) = nI (wk + 1) := by
    rw [h2]
    exact fun z => absurd ((nI_eq (by omega) (by omega)).mp z) (by omega)
  show (rfi (rr k) && (decide (rdv (rr k) = p) && decide (rwk (rr k) = nI (wk + 1)))) = false
  rw [decide_eq_false z]; simp
theorem W_pz (hJ : wJ t n km mn wk po rr) : payS rr n p (nI (wk + 1)) = 0 := by
  have e1 : earnS rr n p (nI (wk + 1)) = 0 := by
    unfold earnS
    rw [bx_congr (b := fun _ => 0) n (fun k hk => by rw [wk_no hJ hk]; rfl), bx_0]
  have f1 : ∀ k, k < n → fok rr p (nI (wk + 1)) k = (fun _ => false) k := fun k hk => by
    show (fby rr p (nI (wk + 1)) k && !voidR (rr k)) = false
    rw [wk_no hJ hk]; rfl
  have e2 : minS rr n p (nI (wk + 1)) = 0 := by
    unfold minS
    rw [bx_congr (b := fun _ => 0) n (fun k hk => by rw [f1 k hk]; rfl), bx_0]
  have e3 : cb (fok rr p (nI (wk + 1))) n = 0 := by
    rw [cb_congr n f1]
    have : ∀ m, cb (fun _ => false) m = 0 := fun m => by
      induction m with
      | zero => rfl
      | succ m ih => simp [cb, ih]
    exact this n
  unfold payS topS floorS bonS
  rw [e1, e2, e3]
  decide +kernel
theorem payB_s {q : Nat} : payB rr n p (q + 1) = payB rr n p q + payS rr n p (nI q) := rfl
theorem W_hou (hJ : wJ t n km mn wk po rr) : houS rr n (wk + 1) = houS rr n wk := by
  have e : bx_sum (fun x => payB rr n (nI x) (wk + 1 + 1)) 5 = bx_sum (fun x => payB rr n (nI x) (wk + 1)) 5 := bx_congr 5 (fun x _ => by rw [payB_s (q := wk + 1), W_pz hJ, Int32.add_zero])
  unfold houS
  rw [e]
theorem W_bal (hJ : wJ t n km mn wk po rr) (hk : k < 5) : ¬ 0 < dueS rr n (poW rr n po wk 5) (wk + 1) k := by
  unfold dueS poW
  by_cases h : 0 < dueW rr n po wk k
  · rw [if_pos ⟨hk, h⟩]
    unfold dueW
    rw [Int32.add_comm, Int32.sub_add_cancel, Int32.sub_self]
    decide
  · rw [if_neg (fun z => h z.2)]
    exact h
theorem J_cw (hJ : wJ t n km mn wk po rr) (ht : t ≤ 80) (hc : canI rr wk n = true) : wJ (t + 1) n km mn (wk + 1) (poW rr n po wk 5) rr := by
  have hw := can_wk hc
  refine ⟨hJ.1.same, hJ.2.1, by omega, fun k hk => ?_, by have := hJ.2.2.2.2.1; omega, fun d hd => ?_⟩
  · obtain ⟨⟨w, h1, h2⟩, h3⟩ := hJ.2.2.2.1 k hk
    exact ⟨⟨w, by omega, h2⟩, h3⟩
  · unfold poW
    by_cases h : 0 < dueW rr n po wk d
    · rw [if_pos ⟨hd, h⟩]
      obtain ⟨x, hx, e⟩ := hJ.payB ht (nI d) (wk + 1)
      unfold dueW
      rw [Int32.add_comm, Int32.sub_add_cancel]
      exact ⟨x, by omega, e⟩
    · rw [if_neg (fun z => h z.2)]
      exact hJ.2.2.2.2.2 d hd
theorem B_cw (hB : wB n km mn wk rr d v o f g) {g1 : Nat → Int32} {x : Int32} (eg : g1 = upd g 1 x) (ex : x = nI (wk + 1)) : wB n km mn (wk + 1) rr d v o f g1 := by
  obtain ⟨h1, h2, h3, h4, h5, h6, h7, h8, h9, h10, h11⟩ := hB
  have hg : ∀ j, j ≠ 1 → g1 j = g j := fun j hj => by rw [eg]; exact pk_un hj
  exact ⟨h1, h2, h3, h4, h5, h6, by rw [hg 0 (by decide)]; exact h7, by rw [eg, pk_us]; exact ex, by rw [hg 2 (by decide)]; exact h9, by rw [hg 3 (by decide)]; exact h10, by rw [hg 4 (by decide)]; exact h11⟩
end PJ9
