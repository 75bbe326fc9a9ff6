/-! the end of a ride, and a stretch: answers, rides, books -/
section PJ6
variable {t n wk : Nat} {km mn : Int32} {po : Nat → Int32} {rr : Nat → wr_V} {d v o f g : Nat → Int32} {k r : Nat}
theorem fnC_ok {p : Int32} {b : Bool} (h1 : okN n p = true) (hb : b = false) : fnC n p b = 0 := by simp [fnC, h1, hb]
theorem fnC_no {p : Int32} {b : Bool} (h1 : okN n p = true) (hb : b = true) : fnC n p b = 2 := by simp [fnC, h1, hb]
theorem fnC_o {p : Int32} {b : Bool} (h1 : okN n p = false) : fnC n p b = 1 := by simp [fnC, h1]
theorem endc_sum (bk : Nat → Bool) (ch : Nat → Int32) : ∀ i, i ≤ 10 → bx_sum (endc bk ch 10) i = 400 * nI (cb bk i) + bx_sum ch i
  | 0, _ => by
    show (0 : Int32) = 400 * nI 0 + 0
    decide
  | i + 1, h => by
    simp only [bx_sum]
    rw [endc_sum bk ch i (by omega)]
    have e : endc bk ch 10 i = (if bk i then ch i + 400 else ch i) := by
      unfold endc
      cases hb : bk i with
      | true => simp [show i < 10 by omega]
      | false => simp
    rw [e]
    cases hb : bk i with
    | true =>
      simp only [cb, hb, if_true]
      rw [← nI_1, Int32.mul_add, Int32.mul_one]
      simp only [Int32.add_assoc]
      congr 1
      rw [Int32.add_comm 400, Int32.add_assoc]
    | false => simp only [cb, hb, Bool.false_eq_true, if_false, Nat.add_zero, Int32.add_assoc]
theorem P_end {w : wr_V} (hf : rfi w = false) : bx_sum (endc (rbk w) (rch w) 10) 10 = 400 * nI (cb (fun i => decide (i < 10) && (!rfi w && rbk w i)) 20) + bx_sum (rch w) 10 := by
  rw [endc_sum _ _ 10 (Nat.le_refl _), cb_20]
  have e : (fun i => !rfi w && rbk w i) = rbk w := by funext i; rw [hf]; simp
  rw [e]
theorem anyc_has (ch : Nat → Int32) : ∀ i, anyc ch i = true → ∃ r, r < i ∧ 0 < ch r
  | 0, h => absurd h (by simp [anyc])
  | i + 1, h => by
    simp only [anyc, Bool.or_eq_true, decide_eq_true_eq] at h
    rcases h with h | h
    · obtain ⟨r, h1, h2⟩ := anyc_has ch i h
      exact ⟨r, by omega, h2⟩
    · exact ⟨i, by omega, h⟩
theorem nov_of {w : wr_V} (h : ∀ r, r < 10 → rfa w r = false) : voidR w = false := by
  unfold voidR
  cases ha : anyc (rch w) 10 with
  | false => simp
  | true =>
    obtain ⟨r, h1, h2⟩ := anyc_has _ _ ha
    have z : allv w (r + 1) = false := by
      simp only [allv, decide_eq_true h2, Bool.not_true, h r h1, Bool.false_and, Bool.or_false, Bool.and_false]
    rw [allv_false w z 10 (by omega)]
    simp
theorem wJ.fa0 (h : wJ t n km mn wk po rr) (hk : k < n) (hf : rfi (rr k) = false) (hr : r < 10) : rfa (rr k) r = false := by
  have hn := h.2.1
  cases z : rfa (rr k) r with
  | false => rfl
  | true =>
    have h1 := (h.wix (k := k) (by omega)).2.2.2.1 r hr z
    have h2 := (h.un hk hf hr).2.1
    rw [h1] at h2; cases h2
theorem P_nv (h : wJ t n km mn wk po rr) (hk : k < n) (hf : rfi (rr k) = false) : bI (voidR (vEnd (rr k))) = 0 := by
  rw [nov_of (w := vEnd (rr k)) (fun r hr => h.fa0 hk hf hr)]; rfl
theorem J_end (h : wJ t n km mn wk po rr) (ht : t ≤ 80) (hk : k < n) (hf : rfi (rr k) = false) : wJ (t + 1) n km mn wk po (va_up rr k (vEnd (rr k))) := by
  have hn := h.2.1
  refine h.set hk (wi_end (h.wix (by omega))) (h.und hk hf rfl rfl rfl rfl rfl) ?_
  have e1 : ∀ r, r < 10 → cN (vEnd (rr k)) r ≤ cN (rr k) r + 400 := fun r hr => by
    have hc := h.cle ht hk hr
    have he := h.ch ht hk hr
    show (endc (rbk (rr k)) (rch (rr k)) 10 r).toNatClampNeg ≤ _
    unfold endc
    split
    · rw [he, show (400 : Int32) = nI 400 from rfl, nI_add, nI_clamp (by omega)]; omega
    · show cN (rr k) r ≤ _; omega
  have key : ∀ i, i ≤ 10 → ns (cN (vEnd (rr k))) i ≤ ns (cN (rr k)) i + 400 * i := by
    intro i
    induction i with
    | zero => intro _; exact Nat.le_refl _
    | succ i ih =>
      intro hi
      have h1 := ih (by omega)
      have h2 := e1 i (by omega)
      simp only [ns]
      omega
  have := key 10 (Nat.le_refl _)
  show ns (cN (vEnd (rr k))) 10 ≤ ns (cN (rr k)) 10 + 250000
  omega
/-- the books, where one ride has changed -/
theorem wB.one {v' : wr_V} {d1 v1 : Nat → Int32} (h : wB n km mn wk rr d v o f g) (hk : k < n) (hn : n ≤ 20) (e1 : rdv v' = rdv (rr k)) (e4 : rdp v' = rdp (rr k)) (e5 : rse v' = rse (rr k)) (e6 : rrf v' = rrf (rr k))
    (hd : ∀ j, j < 60 → d1 j = if j = 20 + k then bI (rfi v') else if j = 40 + k then bI (hdv v') else d j) (hv : ∀ j, j < 20 → v1 j = if j = k then vmk v' else v j) : wB n km mn wk (va_up rr k v') d1 v1 o f g := by
  obtain ⟨h1, h2, h3, h4, h5, h6, h7, h8, h9, h10, h11⟩ := h
  have key : ∀ {α : Type} (F : wr_V → α), F v' = F (rr k) → ∀ j, F (va_up rr k v' j) = F (rr j) := fun F e j => by
    by_cases z : j = k
    · subst z; rw [va_up_self]; exact e
    · rw [va_up_ne _ _ z]
  refine ⟨fun j hj => ?_, fun j hj => ?_, fun j hj => ?_, fun j hj => ?_, fun j hj => ?_, fun j hj => ?_, h7, h8, h9, h10, ?_⟩
  · rw [key rdv e1, hd j (by omega), if_neg (by omega), if_neg (by omega)]; exact h1 j hj
  · rw [hd _ (by omega)]
    by_cases z : j = k
    · subst z; rw [if_pos rfl, va_up_self]
    · rw [if_neg (by omega), if_neg (by omega), va_up_ne _ _ z]; exact h2 j hj
  · rw [hd _ (by omega)]
    by_cases z : j = k
    · subst z; rw [if_neg (by omega), if_pos rfl, va_up_self]
    · rw [if_neg (by omega), if_neg (by omega), va_up_ne _ _ z]; exact h3 j hj
  · rw [hv j hj]
    by_cases z : j = k
    · subst z; rw [if_pos rfl, va_up_self]
    · rw [if_neg z, va_up_ne _ _ z]; exact h4 j hj
  · rw [key omk (by unfold omk; congr 2; funext i; unfold obt; rw [e4, e5])]; exact h5 j hj
  · rw [h6 j hj]
    exact bx_congr n (fun i hi => by rw [key rrf e6])
  · rw [h11]
    unfold opdS
    exact bx_congr n (fun i hi => by rw [key rdp e4, key rse e5])
theorem B_end (hB : wB n km mn wk rr d v o f g) (hk : k < n) (hn : n ≤ 20) {d1 v1 : Nat → Int32} (ed : d1 = upd d (20 + k) 1) (ev : v1 = upd v k 0) : wB n km mn wk (va_up rr k (vEnd (rr k))) d1 v1 o f g := by
  refine hB.one hk hn rfl rfl rfl rfl (fun j hj => ?_) (fun j hj => ?_)
  · rw [ed]
    by_cases z : j = 20 + k
    · rw [if_pos z, z, pk_us]; rfl
    · rw [if_neg z, pk_un z]
      by_cases z2 : j = 40 + k
      · rw [if_pos z2, z2]; exact hB.2.2.1 k (by omega)
      · rw [if_neg z2]
  · rw [ev]
    by_cases z : j = k
    · rw [if_pos z, z, pk_us]; rfl
    · rw [if_neg z, pk_un z]
end PJ6
