/-! a new ride, and new rates, in the law's books -/
def busB (rr : Nat → wr_V) (p : Int32) : Nat → Bool := anyB (fun k => decide (rdv (rr k) = p) && !rfi (rr k))
def rtB (a b : Nat) : Bool := decide (a ≤ 1000) && decide (b ≤ 1000)
theorem rt_1 {a b : Nat} (h : a ≤ 1000 ∧ b ≤ 1000) : (1 : Int32) = bI (rtB a b) := by simp [rtB, h.1, h.2, bI]
theorem rt_t {a b : Nat} (h : rtB a b = true) : a ≤ 1000 ∧ b ≤ 1000 := by
  simp only [rtB, Bool.and_eq_true, decide_eq_true_eq] at h
  exact h
theorem rt_f {a b : Nat} (h : rtB a b = false) : ¬ (a ≤ 1000 ∧ b ≤ 1000) := fun z => by
  simp [rtB, z.1, z.2] at h
theorem rt_0 {a b : Nat} (h : ¬ (a ≤ 1000 ∧ b ≤ 1000)) : (0 : Int32) = bI (rtB a b) := by
  have : rtB a b = false := by
    cases z : rtB a b with
    | false => rfl
    | true => exact absurd (rt_t z) h
  rw [this]; rfl
theorem rem_nI {x y : Int32} {a d : Nat} (hx : x = nI a) (hy : y = nI d) (ha : a < 2 ^ 31) (h0 : 0 < d) (hd : d < 2 ^ 31) : x - x / y * y = nI (a % d) := by
  rw [hx, hy]; exact pk_rem ha h0 hd
theorem sub_nI {x y : Int32} {a d : Nat} (hx : x = nI a) (hy : y = nI d) (h : d ≤ a) : x - y = nI (a - d) := by
  rw [hx, hy]; exact pk_sub h
theorem n_nz {y : Int32} {d : Nat} (hy : y = nI d) (h0 : 0 < d) (hd : d < 2 ^ 31) : ¬ y = 0 := by
  rw [hy]; exact nI_ne0 h0 hd
theorem n_z {y : Int32} {d : Nat} (hy : y = nI d) (hd : d < 2 ^ 31) (h : y = 0) : d = 0 := by
  rw [hy] at h; exact (nI_eq (b := 0) hd (by decide)).mp h
theorem n_p {y : Int32} {d : Nat} (hy : y = nI d) (h : ¬ y = 0) : 0 < d := by
  rcases Nat.eq_zero_or_pos d with z | z
  · rw [z] at hy; exact absurd hy h
  · exact z
theorem vNew_t (p w : Int32) : tN (vNew p w) = 0 := by
  show ns (cN (vNew p w)) 10 = 0
  have : ns (cN (vNew p w)) 10 = ns (fun _ => 0) 10 := ns_congr 10 (fun r _ => rfl)
  rw [this, ns_const, Nat.zero_mul]
section PJ10
variable {t n wk : Nat} {km mn : Int32} {po : Nat → Int32} {rr : Nat → wr_V} {d v o f g : Nat → Int32} {k i a b : Nat} {p q x y : Int32}
theorem bus_1 (h : busB rr p i = true) : (1 : Int32) = bI (busB rr p (i + 1)) := by
  have : busB rr p (i + 1) = true := by unfold busB at h ⊢; simp [anyB, h]
  rw [this]; rfl
theorem bus_e (h : rdv (rr i) = p) (hf : rfi (rr i) = false) : (1 : Int32) = bI (busB rr p (i + 1)) := by
  have : busB rr p (i + 1) = true := by unfold busB; simp [anyB, h, hf]
  rw [this]; rfl
theorem bus_n1 (hb : busB rr p i = false) (h : ¬ rdv (rr i) = p) : (0 : Int32) = bI (busB rr p (i + 1)) := by
  have : busB rr p (i + 1) = false := by unfold busB at hb ⊢; simp [anyB, hb, h]
  rw [this]; rfl
theorem bus_n2 (hb : busB rr p i = false) (hf : rfi (rr i) = true) : (0 : Int32) = bI (busB rr p (i + 1)) := by
  have : busB rr p (i + 1) = false := by unfold busB at hb ⊢; simp [anyB, hb, hf]
  rw [this]; rfl
theorem stC_1 (h : okN 5 p = false) : stC rr n p = 1 := by simp [stC, h]
theorem stC_2 (h : okN 5 p = true) (hb : busB rr p n = true) : stC rr n p = 2 := by
  have : drvS rr n p = true := hb
  simp [stC, h, this]
theorem stC_0 (h : okN 5 p = true) (hb : busB rr p n = false) (hn : n < 20) : stC rr n p = 0 := by
  have h1 : drvS rr n p = false := hb
  have h2 : ¬ n = 40 := by omega
  simp [stC, h, h1, h2]
theorem J_new (h : wJ t n km mn wk po rr) (hn : n < 20) (ep : p = nI k) (hk : k < 5) (hb : busB rr p n = false) : wJ (t + 1) (n + 1) km mn wk po (va_up rr n (vNew p (nI wk))) := by
  have hi := st_start (wk := wk) h.1 (stC_0 (okN_of ep hk (by decide)) hb hn)
  refine ⟨hi, by omega, h.2.2.1, fun j hj => ?_, ?_, h.2.2.2.2.2⟩
  · by_cases e : j = n
    · subst e
      rw [va_up_self]
      refine ⟨⟨wk, Nat.le_refl _, rfl⟩, ⟨k, hk, ep⟩, fun r _ z => (nomatch z), fun r _ _ => rfl, fun r _ => ⟨rfl, Nat.zero_le _⟩⟩
    · rw [va_up_ne _ _ e]; exact h.2.2.2.1 j (by omega)
  · simp only [ns]
    rw [va_up_self, vNew_t]
    have : ns (fun j => tN (va_up rr n (vNew p (nI wk)) j)) n = ns (fun j => tN (rr j)) n := ns_congr n (fun j hj => by rw [va_up_ne _ _ (by omega)])
    rw [this]
    have := h.2.2.2.2.1
    omega
theorem B_new (hB : wB n km mn wk rr d v o f g) (hJ : wJ t n km mn wk po rr) (hn : n < 20) {d1 g1 : Nat → Int32} (ed : d1 = upd d n p) (eg : g1 = upd g 0 x) (ex : x = nI (n + 1)) : wB (n + 1) km mn wk (va_up rr n (vNew p (nI wk))) d1 v o f g1 := by
  obtain ⟨h1, h2, h3, h4, h5, h6, h7, h8, h9, h10, h11⟩ := hB
  have hz : rr n = vNew 0 0 := hJ.1.2.1 n (Nat.le_refl _) (by omega)
  have key : ∀ {α : Type} (F : wr_V → α), F (vNew p (nI wk)) = F (vNew 0 0) → ∀ j, F (va_up rr n (vNew p (nI wk)) j) = F (rr j) := fun F e j => by
    by_cases z : j = n
    · subst z; rw [va_up_self, hz]; exact e
    · rw [va_up_ne _ _ z]
  have hg : ∀ j, j ≠ 0 → g1 j = g j := fun j hj => by rw [eg]; exact pk_un hj
  refine ⟨fun j hj => ?_, fun j hj => ?_, fun j hj => ?_, fun j hj => by rw [key vmk rfl]; exact h4 j hj, fun j hj => by rw [key omk rfl]; exact h5 j hj, fun j hj => ?_, by rw [eg, pk_us]; exact ex, by rw [hg 1 (by decide)]; exact h8, by rw [hg 2 (by decide)]; exact h9, by rw [hg 3 (by decide)]; exact h10, ?_⟩
  · rw [ed]
    by_cases z : j = n
    · subst z; rw [pk_us, va_up_self]; rfl
    · rw [pk_un z, va_up_ne _ _ z]; exact h1 j (by omega)
  · rw [ed, pk_un (by omega), key rfi rfl]; exact h2 j hj
  · rw [ed, pk_un (by omega), key hdv rfl]; exact h3 j hj
  · rw [h6 j hj]
    simp only [bx_sum]
    rw [va_up_self]
    have : bx_sum (fun i => rrf (va_up rr n (vNew p (nI wk)) i) j) n = bx_sum (fun i => rrf (rr i) j) n := bx_congr n (fun i hi => by rw [va_up_ne _ _ (by omega)])
    rw [this]
    exact (Int32.add_zero _).symm
  · rw [hg 4 (by decide), h11]
    unfold opdS
    simp only [bx_sum]
    rw [va_up_self]
    have : bx_sum (fun i => nI (cb (fun r => rdp (va_up rr n (vNew p (nI wk)) i) r && !rse (va_up rr n (vNew p (nI wk)) i) r) 10)) n = bx_sum (fun i => nI (cb (fun r => rdp (rr i) r && !rse (rr i) r) 10)) n := bx_congr n (fun i hi => by rw [va_up_ne _ _ (by omega)])
    rw [this]
    exact (Int32.add_zero _).symm
theorem B_dn (hB : wB n km mn wk rr d v o f g) (hn : n < 20) {d1 g1 : Nat → Int32} (ed : d1 = upd d n p) (eg : g1 = upd g 0 (g 0 + 0)) : wB n km mn wk rr d1 v o f g1 := by
  rw [add_z g eg]
  refine ⟨fun j hj => ?_, fun j hj => ?_, fun j hj => ?_, hB.2.2.2⟩
  · rw [ed, pk_un (by omega)]; exact hB.1 j hj
  · rw [ed, pk_un (by omega)]; exact hB.2.1 j hj
  · rw [ed, pk_un (by omega)]; exact hB.2.2.1 j hj
theorem sr_0 (e1 : p = nI a) (e2 : q = nI b) (ha : a ≤ 2000) (hb : b ≤ 2000) (h : rtB a b = true) : srC p q = 0 := by
  have := rt_t h
  unfold srC
  rw [rng_n e1 (rfl : (0 : Int32) = nI 0) (rfl : (1000 : Int32) = nI 1000) (by omega) (by decide) (by decide), rng_n e2 (rfl : (0 : Int32) = nI 0) (rfl : (1000 : Int32) = nI 1000) (by omega) (by decide) (by decide)]
  simp [this.1, this.2]
theorem sr_1 (e1 : p = nI a) (e2 : q = nI b) (ha : a ≤ 2000) (hb : b ≤ 2000) (h : rtB a b = false) : srC p q = 1 := by
  have := rt_f h
  unfold srC
  rw [rng_n e1 (rfl : (0 : Int32) = nI 0) (rfl : (1000 : Int32) = nI 1000) (by omega) (by decide) (by decide), rng_n e2 (rfl : (0 : Int32) = nI 0) (rfl : (1000 : Int32) = nI 1000) (by omega) (by decide) (by decide)]
  by_cases z : a ≤ 1000
  · simp [show ¬ b ≤ 1000 from fun w => this ⟨z, w⟩]
  · simp [z]
theorem J_rt (h : wJ t n km mn wk po rr) (e1 : p = nI a) (e2 : q = nI b) (hr : rtB a b = true) : wJ (t + 1) n p q wk po rr := by
  have := rt_t hr
  have h1 := h.up
  exact ⟨⟨h1.1.1, h1.1.2.1, h1.1.2.2.1, a, b, this.1, this.2, e1, e2⟩, h1.2⟩
theorem B_rt (hB : wB n km mn wk rr d v o f g) {g1 g2 : Nat → Int32} (e1 : g1 = upd g 2 p) (e2 : g2 = upd g1 3 q) : wB n p q wk rr d v o f g2 := by
  obtain ⟨h1, h2, h3, h4, h5, h6, h7, h8, h9, h10, h11⟩ := hB
  have hg : ∀ j, j ≠ 2 → j ≠ 3 → g2 j = g j := fun j a b => by rw [e2, pk_un b, e1, pk_un a]
  exact ⟨h1, h2, h3, h4, h5, h6, by rw [hg 0 (by decide) (by decide)]; exact h7, by rw [hg 1 (by decide) (by decide)]; exact h8, by rw [e2, pk_un (by decide), e1, pk_us], by rw [e2, pk_us], by rw [hg 4 (by decide) (by decide)]; exact h11⟩
theorem B_rt2 (hB : wB n km mn wk rr d v o f g) {g1 g2 : Nat → Int32} (e1 : g1 = upd g 2 p) (e2 : g2 = upd g1 3 q) (h1 : p = nI a) (h2 : q = nI b) (h3 : x = nI a) (h4 : y = nI b) : wB n x y wk rr d v o f g2 := by
  obtain rfl : p = x := h1.trans h3.symm
  obtain rfl : q = y := h2.trans h4.symm
  exact B_rt hB e1 e2
theorem B_nrt (hB : wB n km mn wk rr d v o f g) {g1 g2 : Nat → Int32} (e1 : g1 = upd g 2 (g 2)) (e2 : g2 = upd g1 3 (g1 3)) : wB n km mn wk rr d v o f g2 := by
  rw [e2, upd_id, e1, upd_id]; exact hB
end PJ10
/-- what isDone is given: both worlds, and the script -/
def wq_P2 (G : wy_G) (L : List Nat) (f : Nat → va_E) (La : List Nat) (fa : Nat → va_E) (sz b N : Nat) (xs : Nat → Int32) (U : State) : Prop := wq_P G L f La fa sz U ∧ wp_P b N xs U
theorem wq_pre2 {s : State} {H : Heap} {locs : List Loc} {A : Nat → Prop} {G : wy_G} {L La : List Nat} {f fa : Nat → va_E} {b N : Nat} {xs : Nat → Int32} {As : List Value} (hK : wy_K G s) (hE : wt_E A s) (hZ : wl_E G A s) (hN : wc_N s) (h : wq_H G A s.heap H locs L f La fa) (hA : ∀ q, s.heap.size ≤ q → A q) (hX : va_X b N xs s s.heap) (hbl : b < s.heap.size) (hbA : ¬ A b) : PreS s H (va_Pc As (wq_P2 G L f La fa H.size b N xs)) As := by
  have h1 := wq_pre (As := As) hK hE hZ hN h hA
  have h2 := wp_pre (As := As) hX hbl hbA h.1.2.2
  exact ⟨fun a U g mk q => by
    obtain ⟨q0, q1, q2⟩ := q
    exact ⟨(h1.1 a U g mk ⟨q0, q1⟩).1, (h1.1 a U g mk ⟨q0, q1⟩).2, (h2.1 a U g mk ⟨q0, q2⟩).2⟩, fun U hU hW => ⟨rfl, (h1.2 U hU hW).2, (h2.2 U hU hW).2⟩⟩
