/-! what the law's check of the money wants -/
theorem wf_ord {d : FP.Core.Datum} (h : d ≠ .nan) : FP.Core.order d d = some .eq := by
  cases d with
  | nan => exact absurd rfl h
  | inf s => simp [FP.Core.order, compare, compareOfLessAndEq]
  | fin s c q => simp [FP.Core.order, compare, compareOfLessAndEq]
theorem mean_e32 (a : Int32) {c : Nat} {op : CmpOp} (h0 : c ≠ 0) (h : c ≤ 40) : Op.cmpValue (FP.fcmp (mean a c) (mean a c)) op = 0 := by
  show Op.cmpValue (FP.Core.order (FP.Core.decode FP.Core.b32 (mean a c).toNat) (FP.Core.decode FP.Core.b32 (mean a c).toNat)) op = 0
  have h1 : FP.Core.decode FP.Core.b32 (mean a c).toNat ≠ .nan := wf_d32 (wf_q a h0 h)
  rw [wf_ord h1]; cases op <;> rfl
theorem ten_e {op : CmpOp} : Op.cmpValue (FP.fcmp 3240099840 3240099840) op = 0 := by cases op <;> decide +kernel
/-- rides that are over and were charged to a rider -/
def mB (rr : Nat → wr_V) (r : Nat) : Nat → Bool := fun k => rfi (rr k) && decide (0 < rch (rr k) r)
def avV (rr : Nat → wr_V) (n r : Nat) : UInt32 := if cb (mB rr r) n = 0 then 3240099840 else mean (allS rr r n) (cb (mB rr r) n)
section PJ3
variable {t n wk : Nat} {km mn : Int32} {po : Nat → Int32} {rr : Nat → wr_V} {d v o f g : Nat → Int32}
theorem P_av (hJ : wJ t n km mn wk po rr) (ht : t ≤ 80) {p : Int32} {r : Nat} (hr : r < 10) (e : p = nI r) : dev (avC rr n p) (mean (avsS rr n (ix p)) (avcS rr n (ix p))) = avV rr n r := by
  have e1 : ix p = r := by rw [e]; exact ix_nI (by omega)
  have e2 : okN 10 p = true := okN_of e hr (by decide)
  have e3 : avcS rr n r = cb (mB rr r) n := rfl
  unfold avC avV
  rw [e1, e2, e3, hJ.avs ht hr]
  by_cases h : cb (mB rr r) n = 0
  · simp only [if_true, if_pos h]; rfl
  · simp only [if_true, if_neg h]; rfl
theorem P_f0 {r : Nat} {op : CmpOp} (h : cb (mB rr r) n = 0) : Op.cmpValue (FP.fcmp (avV rr n r) 3240099840) op = 0 := by
  unfold avV; rw [if_pos h]; exact ten_e
theorem P_f1 {r : Nat} {op : CmpOp} (hn : n ≤ 20) (h : ¬ cb (mB rr r) n = 0) : Op.cmpValue (FP.fcmp (avV rr n r) (mean (allS rr r n) (cb (mB rr r) n))) op = 0 := by
  unfold avV; rw [if_neg h]; exact mean_e32 _ h (Nat.le_trans (cb_le _ _) (by omega))
theorem P_mb0 {v : wr_V} {r : Nat} {y : Int32} (e : y = (if rfi v = true then rch v r else 0)) (h : y ≤ 0) : (0 : Int32) = bI (rfi v && decide (0 < rch v r)) := by
  cases hf : rfi v with
  | false => rfl
  | true =>
    rw [hf, if_pos rfl] at e
    have : ¬ 0 < rch v r := by rw [← e]; exact Int32.not_lt.mpr h
    simp [this, bI]
theorem P_mb1 {v : wr_V} {r : Nat} {y : Int32} (e : y = (if rfi v = true then rch v r else 0)) (h : ¬ y ≤ 0) : (1 : Int32) = bI (rfi v && decide (0 < rch v r)) := by
  cases hf : rfi v with
  | false => rw [hf] at e; simp at e; rw [e] at h; exact absurd (Int32.le_refl 0) h
  | true =>
    rw [hf, if_pos rfl] at e
    have : 0 < rch v r := by rw [← e]; exact Int32.not_le.mp h
    simp [this, bI]
theorem P_sp (hJ : wJ t n km mn wk po rr) (hB : wB n km mn wk rr d v o f g) {r : Nat} (hr : r < 10) : spdS rr n r = allS rr r n - f r := by
  rw [hB.2.2.2.2.2.1 r hr]; exact hJ.spent hr
theorem P_spn (hJ : wJ t n km mn wk po rr) (ht : t ≤ 80) {r : Nat} (hr : r < 10) : ¬ spdS rr n r < 0 := by
  obtain ⟨x, hx, e⟩ := hJ.spd ht hr
  rw [e]; exact nI_pos (by omega)
theorem P_en (hJ : wJ t n km mn wk po rr) (ht : t ≤ 80) (p q : Int32) : ¬ earnS rr n p q < 0 := by
  obtain ⟨x, hx, e⟩ := hJ.earn ht p q
  rw [e]; exact nI_pos (by omega)
theorem P_tn (hJ : wJ t n km mn wk po rr) (ht : t ≤ 80) (p q : Int32) : ¬ topS rr n p q < 0 := by
  obtain ⟨x, hx, e⟩ := hJ.top ht p q
  rw [e]; exact nI_pos (by omega)
theorem P_pn (hJ : wJ t n km mn wk po rr) {k : Nat} (hk : k < 5) : ¬ po k < 0 := by
  obtain ⟨c, hc, e⟩ := hJ.2.2.2.2.2 k hk
  rw [e]; exact nI_pos hc
theorem P_b6 {c : Nat} (h1 : ¬ bonN c = 0) (h2 : ¬ bonN c = 1000) (h3 : ¬ bonN c = 3000) : bonN c = 6000 := by
  rcases bonN_v c with h | h | h | h
  · exact absurd h h1
  · exact absurd h h2
  · exact absurd h h3
  · exact h
theorem P_ow0 {p : Int32} {j : Nat} (h : wk ≤ j) : payB rr n p (min j wk) + 0 = payB rr n p (min (j + 1) wk) := by
  rw [Int32.add_zero, Nat.min_eq_right h, Nat.min_eq_right (by omega)]
theorem P_ow1 {p : Int32} {j : Nat} (h : j < wk) : payB rr n p (min j wk) + payS rr n p (nI j) = payB rr n p (min (j + 1) wk) := by
  rw [Nat.min_eq_left (by omega), Nat.min_eq_left (by omega)]; rfl
theorem P_due {k : Nat} : dueS rr n po wk k = payB rr n (nI k) (min (wk + 1) wk) - po k := by
  rw [Nat.min_eq_right (by omega)]; rfl
theorem P_ew {p q : Int32} {k : Nat} (hk : k < 5) (hw : wk ≤ 20) (e1 : p = nI k) (e2 : q = nI (wk + 1)) : ewC wk p q = 2 := by
  have h1 : okN 5 p = true := okN_of e1 hk (by decide)
  have h2 : rngB q 0 (nI wk) = false := by
    unfold rngB
    rw [e2]
    have : ¬ nI (wk + 1) ≤ nI wk := fun z => absurd ((nI_leI (by omega) (by omega)).mp z) (by omega)
    simp [this]
  simp [ewC, h1, h2]
theorem P_sum : houS rr n wk + bx_sum (fun x => payB rr n (nI x) (wk + 1)) 5 = bx_sum (fun r => spdS rr n r) 10 := by
  have h := spd_hrd rr n
  rw [show (fun r => spdS rr n r) = spdS rr n from rfl, h]
  unfold houS
  rw [Int32.sub_add_cancel]
end PJ3
