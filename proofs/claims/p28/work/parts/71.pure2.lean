/-! what the law's checks of the rides want -/
theorem okC_out {n j : Nat} (h : n ≤ j) (hj : j < 2 ^ 31) : okC n (nI j) = 1 := by
  have : okN n (nI j) = false := by
    have h1 : ¬ nI j < nI n := fun z => absurd ((nI_ltI hj (by omega)).mp z) (by omega)
    simp [okN, h1]
  simp [okC, this]
theorem okC_m1 (n : Nat) : okC n (-1) = 1 := by
  have : okN n (-1) = false := by simp only [okN]; rw [decide_eq_true (by decide : (-1 : Int32) < 0)]; rfl
  simp [okC, this]
theorem okC_in {n j : Nat} (h : j < n) (hn : n < 2 ^ 31) : okC n (nI j) = 0 := by
  simp [okC, okN_of rfl h hn]
theorem okN_out {n j : Nat} (h : n ≤ j) (hj : j < 2 ^ 31) : okN n (nI j) = false := by
  have h1 : ¬ nI j < nI n := fun z => absurd ((nI_ltI hj (by omega)).mp z) (by omega)
  simp [okN, h1]
theorem ok2C_out {n j : Nat} (q : Int32) (h : n ≤ j) (hj : j < 2 ^ 31) : ok2C n (nI j) q = 1 := by
  simp [ok2C, okN_out h hj]
theorem vmk_bt (v : wr_V) {i : Nat} (hi : i < 32) : bt (vmk v) i = (decide (i < 10) && (!rfi v && rbk v i)) := by
  unfold vmk
  cases rfi v with
  | true => simp [b_0]
  | false => simp [mks_bt _ hi]
theorem cb_20 (b : Nat → Bool) : cb (fun i => decide (i < 10) && b i) 20 = cb b 10 := by
  rw [show (20 : Nat) = 10 + 10 from rfl, cb_add]
  have h1 : cb (fun i => decide (i < 10) && b i) 10 = cb b 10 := cb_congr 10 (fun k hk => by simp [hk])
  have h2 : cb (fun k => decide (10 + k < 10) && b (10 + k)) 10 = cb (fun _ => false) 10 := cb_congr 10 (fun k hk => by simp [show ¬ (10 + k < 10) by omega])
  rw [h1, h2, cb_ff, Nat.add_zero]
theorem mks_small (b : Nat → Bool) : ¬ (1024 : Int32) ≤ mks b := by
  have h := wm_lt b 10
  exact fun z => absurd ((nI_leI (a := 1024) (b := wm b 10) (by decide) (by omega)).mp z) (by omega)
section PJ2
variable {t n wk : Nat} {km mn : Int32} {po : Nat → Int32} {rr : Nat → wr_V} {d v o f g : Nat → Int32}
theorem wJ.wix (h : wJ t n km mn wk po rr) {k : Nat} (hk : k < 20) : wi t (rr k) := h.1.1 k (by omega)
theorem wB.vk (h : wB n km mn wk rr d v o f g) {k : Nat} (hk : k < 20) : v k = vmk (rr k) := h.2.2.2.1 k hk
theorem P_and (hJ : wJ t n km mn wk po rr) (hB : wB n km mn wk rr d v o f g) {k : Nat} (hk : k < n) : mks (rsd (rr k)) &&& v k = 0 := by
  have hn := hJ.2.1
  rw [hB.vk (by omega)]
  apply b_ext
  intro i hi
  rw [b_and, mks_bt _ hi, vmk_bt _ hi, b_0]
  by_cases h10 : i < 10
  · cases hb : rbk (rr k) i with
    | false => simp
    | true => simp [(hJ.wix (by omega)).1 i h10 hb]
  · simp [h10]
theorem P_sdz (hJ : wJ t n km mn wk po rr) {k : Nat} (hk : k < n) (hf : rfi (rr k) = true) : rsd (rr k) = rsd (rr k) ∧ mks (rsd (rr k)) = 0 ∧ cb (rsd (rr k)) 10 = 0 := by
  have hn := hJ.2.1
  have h := (hJ.wix (by omega)).2.1 hf
  have e : ∀ r, r < 10 → rsd (rr k) r = (fun _ => false) r := h
  refine ⟨rfl, ?_, ?_⟩
  · show nI (wm (rsd (rr k)) 10) = 0
    rw [wm_congr 10 e]; exact mks_0
  · rw [cb_congr 10 e]; exact cb_ff
theorem P_cnt (hJ : wJ t n km mn wk po rr) {k : Nat} (hk : k < n) : cb (fun i => decide (i < 10) && rsd (rr k) i) 20 + cb (fun i => decide (i < 10) && (!rfi (rr k) && rbk (rr k) i)) 20 ≤ 4 := by
  have hn := hJ.2.1
  rw [cb_20, cb_20]
  have h := (hJ.wix (k := k) (by omega)).2.2.1
  cases hf : rfi (rr k) with
  | false =>
    simp only [Bool.not_false, Bool.true_and]
    have e : (fun i => rbk (rr k) i) = rbk (rr k) := rfl
    rw [e]; omega
  | true =>
    have h1 := (P_sdz hJ hk hf).2.2
    have h2 : cb (fun i => !true && rbk (rr k) i) 10 = 0 := by
      rw [cb_congr 10 (b := fun _ => false) (fun k hk => by simp)]; exact cb_ff
    rw [h1, h2]; omega
theorem P_nov {v : wr_V} (hf : rfi v = false) : bI (voidR v) = 0 := by simp [voidR, hf, bI]
theorem P_ch0 (hJ : wJ t n km mn wk po rr) (ht : t ≤ 80) {k r : Nat} (hk : k < n) (hr : r < 10) : ¬ rch (rr k) r < 0 := by
  rw [hJ.ch ht hk hr]
  exact nI_pos (by have := hJ.cle ht hk hr; omega)
end PJ2
theorem P_5 {x : Int32} {m : Nat} (e : x = nI m) (h : m ≤ 4) : ¬ (5 : Int32) ≤ x := by
  rw [e]
  exact fun z => absurd ((nI_leI (a := 5) (by decide) (by omega)).mp z) (by omega)
