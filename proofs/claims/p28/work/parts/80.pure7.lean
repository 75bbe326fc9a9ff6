/-! a stretch -/
def rgtB (a b : Nat) : Bool := decide (a ≤ 100) && (decide (0 < b) && decide (b ≤ 120))
theorem rgt_t {a b : Nat} (h : rgtB a b = true) : a ≤ 100 ∧ 0 < b ∧ b ≤ 120 := by
  simp only [rgtB, Bool.and_eq_true, decide_eq_true_eq] at h
  exact h
theorem rgt_1 {a b : Nat} (h : a ≤ 100 ∧ 0 < b ∧ b ≤ 120) : (1 : Int32) = bI (rgtB a b) := by
  simp [rgtB, h.1, h.2.1, h.2.2, bI]
theorem rgt_0 {a b : Nat} (h : ¬ (a ≤ 100 ∧ 0 < b ∧ b ≤ 120)) : (0 : Int32) = bI (rgtB a b) := by
  have : rgtB a b = false := by
    cases z : rgtB a b with
    | false => rfl
    | true => exact absurd (rgt_t z) h
  rw [this]; rfl
theorem n_le0 {p : Int32} {b : Nat} (e : p = nI b) (hb : b < 2 ^ 31) (h : p ≤ 0) : b = 0 := by
  rw [e] at h
  have := (nI_leI (b := 0) hb (by decide)).mp h
  omega
theorem n_gt0 {p : Int32} {b : Nat} (e : p = nI b) (hb : b < 2 ^ 31) (h : ¬ p ≤ 0) : 0 < b := by
  rcases Nat.eq_zero_or_pos b with z | z
  · rw [e, z] at h; exact absurd (Int32.le_refl 0) h
  · exact z
theorem rng_n {p lo hi : Int32} {a x y : Nat} (e : p = nI a) (e1 : lo = nI x) (e2 : hi = nI y) (ha : a < 2 ^ 31) (hx : x < 2 ^ 31) (hy : y < 2 ^ 31) : rngB p lo hi = (decide (x ≤ a) && decide (a ≤ y)) := by
  unfold rngB
  rw [e, e1, e2]
  congr 1
  · exact decide_eq_decide.mpr (nI_leI hx ha)
  · exact decide_eq_decide.mpr (nI_leI ha hy)
section PJ7
variable {t n wk : Nat} {km mn : Int32} {po : Nat → Int32} {rr : Nat → wr_V} {d v o f g : Nat → Int32} {k r a b : Nat} {p q p3 : Int32}
theorem dv_rng (e4 : p = nI a) (e5 : q = nI b) (ha : a ≤ 1000) (hb : b ≤ 1000) : (rngB p 0 100 && rngB q 1 120) = rgtB a b := by
  rw [rng_n e4 (rfl : (0 : Int32) = nI 0) (rfl : (100 : Int32) = nI 100) (by omega) (by decide) (by decide), rng_n e5 (rfl : (1 : Int32) = nI 1) (rfl : (120 : Int32) = nI 120) (by omega) (by decide) (by decide)]
  unfold rgtB
  have : decide (1 ≤ b) = decide (0 < b) := decide_eq_decide.mpr ⟨fun z => by omega, fun z => by omega⟩
  rw [this]; simp
theorem dvC_ok {fi : Bool} (h1 : okN n p3 = true) (e4 : p = nI a) (e5 : q = nI b) (ha : a ≤ 1000) (hb : b ≤ 1000) (hr : rgtB a b = true) (hf : fi = false) : dvC n p3 p q fi = 0 := by
  unfold dvC; rw [h1, dv_rng e4 e5 ha hb, hr, hf]; rfl
theorem dvC_3 {fi : Bool} (h1 : okN n p3 = true) (e4 : p = nI a) (e5 : q = nI b) (ha : a ≤ 1000) (hb : b ≤ 1000) (hr : rgtB a b = true) (hf : fi = true) : dvC n p3 p q fi = 3 := by
  unfold dvC; rw [h1, dv_rng e4 e5 ha hb, hr, hf]; rfl
theorem dvC_2 {fi : Bool} (h1 : okN n p3 = true) (e4 : p = nI a) (e5 : q = nI b) (ha : a ≤ 1000) (hb : b ≤ 1000) (hr : rgtB a b = false) : dvC n p3 p q fi = 2 := by
  unfold dvC; rw [h1, dv_rng e4 e5 ha hb, hr]; rfl
theorem dvC_1 {fi : Bool} (h1 : okN n p3 = false) : dvC n p3 p q fi = 1 := by
  unfold dvC; rw [h1]; rfl
theorem P_cost (hJ : wJ t n km mn wk po rr) (e4 : p = nI a) (e5 : q = nI b) (ha : a ≤ 100) (hb : b ≤ 120) : ∃ C, C ≤ 220000 ∧ p * km + q * mn = nI C := by
  obtain ⟨x, y, hx, hy, e1, e2⟩ := hJ.1.2.2.2
  have h1 : a * x ≤ 100 * 1000 := Nat.mul_le_mul ha hx
  have h2 : b * y ≤ 120 * 1000 := Nat.mul_le_mul hb hy
  exact ⟨a * x + b * y, by omega, by rw [e4, e5, e1, e2, pk_mul, pk_mul, nI_add]⟩
def morN (sd : Nat → Bool) (C r : Nat) : Nat := C / cb sd 10 + (if cb sd r < C % cb sd 10 then 1 else 0)
theorem lf_pos {l c : Nat} (hl : l < 100) (hc : c < 100) : (0 < nI l - nI c) ↔ (c < l) := by
  rcases Nat.lt_trichotomy c l with h | h | h
  · rw [pk_sub (by omega)]
    exact ⟨fun _ => h, fun _ => nI_lt (a := 0) (by omega) (by omega)⟩
  · subst h
    rw [pk_sub (Nat.le_refl _), Nat.sub_self]
    exact ⟨fun z => absurd z (by decide), fun z => absurd z (by omega)⟩
  · exact ⟨fun z => absurd z (Int32.not_lt.mpr (Int32.le_of_lt (pk_sneg (by omega) h))), fun z => absurd z (by omega)⟩
theorem stchg_v {sd : Nat → Bool} {ch : Nat → Int32} {C : Nat} (hC : C < 2 ^ 30) (hm : ¬ cb sd 10 = 0) (hr : r < 10) : stchg sd ch (nI C) r = if sd r then ch r + nI (morN sd C r) else ch r := by
  have h10 := cb_le sd 10
  unfold stchg stch
  rw [if_neg hm]
  cases hs : sd r with
  | false => simp
  | true =>
    have hcr := cb_le sd r
    simp only [hr, and_self, if_true]
    rw [pk_rem (by omega) (by omega) (by omega), pk_div (by omega) (by omega) (by omega)]
    have h1 : C % cb sd 10 < cb sd 10 := Nat.mod_lt _ (by omega)
    have hp := lf_pos (l := C % cb sd 10) (c := cb sd r) (by omega) (by omega)
    unfold morN
    by_cases z : cb sd r < C % cb sd 10
    · rw [if_pos z, if_pos (hp.mpr z), nI_1]
    · rw [if_neg z, if_neg (fun w => z (hp.mp w))]; rfl
theorem mor_sumM (sd : Nat → Bool) (q l : Nat) : ∀ i, ns (fun r => if sd r then q + (if cb sd r < l then 1 else 0) else 0) i = q * cb sd i + min l (cb sd i)
  | 0 => by simp [ns, cb]
  | i + 1 => by
    simp only [ns]
    rw [mor_sumM sd q l i]
    cases hs : sd i with
    | false => simp [cb, hs]
    | true =>
      simp only [cb, hs, if_true]
      rw [Nat.mul_add, Nat.mul_one]
      split <;> omega
theorem mor_sum (sd : Nat → Bool) (C : Nat) (i : Nat) : ns (fun r => if sd r then morN sd C r else 0) i = C / cb sd 10 * cb sd i + min (C % cb sd 10) (cb sd i) := mor_sumM sd _ _ i
theorem mor_all {sd : Nat → Bool} {C : Nat} (hm : ¬ cb sd 10 = 0) : ns (fun r => if sd r then morN sd C r else 0) 10 = C := by
  rw [mor_sum, Nat.min_eq_left (Nat.le_of_lt (Nat.mod_lt _ (by omega))), Nat.mul_comm]
  exact Nat.div_add_mod _ _
theorem cb_mono (b : Nat → Bool) {i : Nat} : ∀ j, i ≤ j → cb b i ≤ cb b j
  | 0, h => by rw [show i = 0 by omega]; exact Nat.le_refl _
  | j + 1, h => by
    by_cases e : i = j + 1
    · rw [e]; exact Nat.le_refl _
    · have := cb_mono b (i := i) j (by omega)
      simp only [cb]; omega
theorem mor_mono (sd : Nat → Bool) (C : Nat) {i j : Nat} (h : i ≤ j) : morN sd C j ≤ morN sd C i := by
  have := cb_mono sd j h
  unfold morN
  split
  · rw [if_pos (show cb sd i < C % cb sd 10 by omega)]; exact Nat.le_refl _
  · split <;> omega
theorem mor_le {sd : Nat → Bool} {C r : Nat} : morN sd C r ≤ C + 1 := by
  have := Nat.div_le_self C (cb sd 10)
  unfold morN
  split <;> omega
theorem mor_q {sd : Nat → Bool} {C r : Nat} : C / cb sd 10 ≤ morN sd C r ∧ morN sd C r ≤ C / cb sd 10 + 1 := by
  unfold morN
  split <;> omega
/-- the charges behind a stretch -/
theorem str_ch {w : wr_V} {C : Nat} {c mi : Int32} (ec : c = nI C) (hC : C < 2 ^ 30) (hr : r < 10) : rch (vStr w c mi) r = rch w r + nI (if rsd w r then (if cb (rsd w) 10 = 0 then 0 else morN (rsd w) C r) else 0) := by
  show stchg (rsd w) (rch w) c r = _
  rw [ec]
  by_cases hm : cb (rsd w) 10 = 0
  · have hs : rsd w r = false := by
      cases z : rsd w r with
      | false => rfl
      | true => have := cb_pos (rsd w) z 10 hr; omega
    rw [hs]
    unfold stchg
    rw [if_pos hm]
    exact (Int32.add_zero _).symm
  · rw [stchg_v hC hm hr]
    cases rsd w r with
    | false => exact (Int32.add_zero _).symm
    | true => simp only [if_true, if_neg hm]
theorem P_more {w : wr_V} {C : Nat} {c mi : Int32} (ec : c = nI C) (hC : C < 2 ^ 30) (hr : r < 10) (hs : rsd w r = true) : rch (vStr w c mi) r - rch w r = nI (morN (rsd w) C r) := by
  rw [str_ch ec hC hr, hs]
  have := cb_pos (rsd w) hs 10 hr
  simp only [if_true, if_neg (show ¬ cb (rsd w) 10 = 0 by omega)]
  rw [Int32.add_comm, Int32.add_sub_cancel]
theorem P_less {w : wr_V} {C : Nat} {c mi : Int32} (ec : c = nI C) (hC : C < 2 ^ 30) (hr : r < 10) (hs : rsd w r = false) : rch (vStr w c mi) r - rch w r = 0 := by
  rw [str_ch ec hC hr, hs]
  simp only [Bool.false_eq_true, if_false]
  show rch w r + 0 - rch w r = 0
  rw [Int32.add_zero, Int32.sub_self]
theorem str_sum {w : wr_V} {C : Nat} {c mi : Int32} (ec : c = nI C) (hC : C < 2 ^ 30) : bx_sum (rch (vStr w c mi)) 10 = bx_sum (rch w) 10 + (if cb (rsd w) 10 = 0 then 0 else nI C) := by
  have e1 : bx_sum (rch (vStr w c mi)) 10 = bx_sum (fun r => rch w r + nI (if rsd w r then (if cb (rsd w) 10 = 0 then 0 else morN (rsd w) C r) else 0)) 10 := bx_congr 10 (fun r hr => str_ch ec hC hr)
  rw [e1, bx_addf, bx_ns (h := fun r => if rsd w r then (if cb (rsd w) 10 = 0 then 0 else morN (rsd w) C r) else 0) 10 (fun r _ => rfl)]
  congr 1
  by_cases hm : cb (rsd w) 10 = 0
  · rw [if_pos hm]
    have : ns (fun r => if rsd w r then (if cb (rsd w) 10 = 0 then 0 else morN (rsd w) C r) else 0) 10 = ns (fun _ => 0) 10 := ns_congr 10 (fun r _ => by rw [if_pos hm]; simp)
    rw [this]; rfl
  · rw [if_neg hm]
    have : ns (fun r => if rsd w r then (if cb (rsd w) 10 = 0 then 0 else morN (rsd w) C r) else 0) 10 = ns (fun r => if rsd w r then morN (rsd w) C r else 0) 10 := ns_congr 10 (fun r _ => by rw [if_neg hm])
    rw [this, mor_all hm]
theorem P_drs {w : wr_V} {C : Nat} {c mi : Int32} (ec : c = nI C) (hC : C < 2 ^ 30) : 0 - bx_sum (rch w) 10 + bx_sum (rch (vStr w c mi)) 10 = if cb (rsd w) 10 = 0 then 0 else c := by
  rw [str_sum ec hC, Int32.zero_sub, ← Int32.add_assoc, Int32.add_left_neg, Int32.zero_add, ec]
theorem J_str (h : wJ t n km mn wk po rr) (ht : t ≤ 80) (hk : k < n) (hf : rfi (rr k) = false) {C : Nat} {c : Int32} (ec : c = nI C) (hC : C ≤ 220000) (e5 : q = nI b) (hb : b ≤ 120) : wJ (t + 1) n km mn wk po (va_up rr k (vStr (rr k) c q)) := by
  have hn := h.2.1
  refine h.set hk (by rw [ec, e5]; exact wi_str (h.wix (by omega)) (by omega) hC hb) (h.und hk hf rfl rfl rfl rfl rfl) ?_
  have e1 : ∀ r, r < 10 → cN (vStr (rr k) c q) r = cN (rr k) r + (if rsd (rr k) r then (if cb (rsd (rr k)) 10 = 0 then 0 else morN (rsd (rr k)) C r) else 0) := fun r hr => by
    have hc := h.cle ht hk hr
    have he := h.ch ht hk hr
    have hz := mor_le (sd := rsd (rr k)) (C := C) (r := r)
    have hw : (if rsd (rr k) r then (if cb (rsd (rr k)) 10 = 0 then 0 else morN (rsd (rr k)) C r) else 0) ≤ C + 1 := by
      split
      · split <;> omega
      · omega
    show (rch (vStr (rr k) c q) r).toNatClampNeg = _
    rw [str_ch ec (by omega) hr, he, nI_add, nI_clamp (by omega)]
  have key : ∀ i, i ≤ 10 → ns (cN (vStr (rr k) c q)) i = ns (cN (rr k)) i + ns (fun r => if rsd (rr k) r then (if cb (rsd (rr k)) 10 = 0 then 0 else morN (rsd (rr k)) C r) else 0) i := by
    intro i
    induction i with
    | zero => intro _; rfl
    | succ i ih =>
      intro hi
      have h1 := ih (by omega)
      have h2 := e1 i (by omega)
      simp only [ns]
      omega
  have h2 := key 10 (Nat.le_refl _)
  have h3 : ns (fun r => if rsd (rr k) r then (if cb (rsd (rr k)) 10 = 0 then 0 else morN (rsd (rr k)) C r) else 0) 10 ≤ C := by
    by_cases hm : cb (rsd (rr k)) 10 = 0
    · have : ns (fun r => if rsd (rr k) r then (if cb (rsd (rr k)) 10 = 0 then 0 else morN (rsd (rr k)) C r) else 0) 10 = ns (fun _ => 0) 10 := ns_congr 10 (fun r _ => by rw [if_pos hm]; simp)
      rw [this, ns_const]; omega
    · have : ns (fun r => if rsd (rr k) r then (if cb (rsd (rr k)) 10 = 0 then 0 else morN (rsd (rr k)) C r) else 0) 10 = ns (fun r => if rsd (rr k) r then morN (rsd (rr k)) C r else 0) 10 := ns_congr 10 (fun r _ => by rw [if_neg hm])
      rw [this, mor_all hm]; exact Nat.le_refl _
  show ns (cN (vStr (rr k) c q)) 10 ≤ ns (cN (rr k)) 10 + 250000
  omega
theorem B_str (hB : wB n km mn wk rr d v o f g) (hJ : wJ t n km mn wk po rr) (ht : t ≤ 80) (hk : k < n) (hn : n ≤ 20) {c : Int32} (e5 : q = nI b) (hb0 : 0 < b) (hb : b ≤ 120) {d1 : Nat → Int32} (ed : d1 = upd d (40 + k) 1) : wB n km mn wk (va_up rr k (vStr (rr k) c q)) d1 v o f g := by
  obtain ⟨m, hm, em⟩ := (hJ.wix (k := k) (by omega)).2.2.2.2.2.1
  have hh : hdv (vStr (rr k) c q) = true := by
    have z : ¬ rmi (vStr (rr k) c q) = 0 := by
      show ¬ rmi (rr k) + q = 0
      rw [em, e5, nI_add]
      exact nI_ne0 (by omega) (by omega)
    unfold hdv
    rw [decide_eq_false z]; rfl
  refine hB.one hk hn rfl rfl rfl rfl (fun j hj => ?_) (fun j hj => ?_)
  · rw [ed]
    by_cases z2 : j = 40 + k
    · rw [if_neg (by omega), if_pos z2, z2, pk_us, hh]; rfl
    · rw [pk_un z2]
      by_cases z : j = 20 + k
      · rw [if_pos z, z]; exact hB.2.1 k (by omega)
      · rw [if_neg z, if_neg z2]
  · by_cases z : j = k
    · rw [if_pos z, z]; exact hB.vk (by omega)
    · rw [if_neg z]
/-- the last share is no smaller than those to come -/
def lsI (sd : Nat → Bool) (C i : Nat) (l : Int32) : Prop := ∀ r, i ≤ r → r < 10 → sd r = true → ¬ l < nI (morN sd C r)
theorem lsI_0 {sd : Nat → Bool} {C : Nat} (hC : C ≤ 220000) : lsI sd C 0 1000000000 := fun r _ _ _ => by
  have := mor_le (sd := sd) (C := C) (r := r)
  exact fun z => absurd ((nI_ltI (a := 1000000000) (by decide) (by omega)).mp z) (by omega)
theorem lsI_t {sd : Nat → Bool} {C i : Nat} {l : Int32} (hC : C ≤ 220000) (h : l = nI (morN sd C i)) : lsI sd C (i + 1) l := fun r h1 _ _ => by
  have h2 := mor_mono sd C (i := i) (j := r) (by omega)
  have := mor_le (sd := sd) (C := C) (r := i)
  rw [h]
  exact nI_nlt h2 (by omega)
theorem lsI_f {sd : Nat → Bool} {C i : Nat} {l : Int32} (h : lsI sd C i l) : lsI sd C (i + 1) l := fun r h1 h2 h3 => h r (by omega) h2 h3
theorem P_q0 {sd : Nat → Bool} {C i : Nat} {x y : Int32} (hC : C ≤ 220000) (hi : i < 10) (hs : sd i = true) (ex : x = nI (morN sd C i)) (ey : y = nI C) : ¬ x < y / nI (cb (fun i => decide (i < 10) && sd i) 20) := by
  have hp := cb_pos sd hs 10 hi
  have hl := cb_le sd 10
  have h1 := mor_le (sd := sd) (C := C) (r := i)
  have h2 := (mor_q (sd := sd) (C := C) (r := i)).1
  rw [cb_20, ex, ey, pk_div (by omega) (by omega) (by omega)]
  exact nI_nlt h2 (by omega)
theorem P_q1 {sd : Nat → Bool} {C i : Nat} {x y : Int32} (hC : C ≤ 220000) (hi : i < 10) (hs : sd i = true) (ex : x = nI (morN sd C i)) (ey : y = nI C) : ¬ y / nI (cb (fun i => decide (i < 10) && sd i) 20) + 1 < x := by
  have hp := cb_pos sd hs 10 hi
  have hl := cb_le sd 10
  have h1 := mor_le (sd := sd) (C := C) (r := i)
  have h2 := (mor_q (sd := sd) (C := C) (r := i)).2
  have h3 := Nat.div_le_self C (cb sd 10)
  rw [cb_20, ex, ey, pk_div (by omega) (by omega) (by omega), nI_1]
  exact nI_nlt h2 (by omega)
end PJ7
theorem wf_step {F wf w1 : Nat → Int32} {i : Nat} {x : Int32} (h : ∀ r, r < i → wf r = F r) (e : w1 = upd wf i x) (ex : x = F i) : ∀ r, r < i + 1 → w1 r = F r := fun r hr => by
  rw [e]
  by_cases z : r = i
  · rw [z, pk_us, ex]
  · rw [pk_un z]; exact h r (by omega)
theorem m_z {sd : Nat → Bool} (h : nI (cb (fun i => decide (i < 10) && sd i) 20) = 0) : cb sd 10 = 0 := by
  rw [cb_20] at h
  exact (nI_eq (b := 0) (Nat.lt_of_le_of_lt (cb_le _ _) (by omega)) (by decide)).mp h
theorem m_nz {sd : Nat → Bool} (h : ¬ nI (cb (fun i => decide (i < 10) && sd i) 20) = 0) : ¬ cb sd 10 = 0 := fun z => h (by rw [cb_20, z]; rfl)
theorem m_pos {sd : Nat → Bool} {i : Nat} (hs : sd i = true) (hi : i < 10) : ¬ nI (cb (fun i => decide (i < 10) && sd i) 20) = 0 := fun z => by
  have h1 := m_z z
  have h2 := cb_pos sd hs 10 hi
  omega
theorem m_ne {sd : Nat → Bool} {i : Nat} (hs : sd i = true) (hi : i < 10) : ¬ cb sd 10 = 0 := by
  have h2 := cb_pos sd hs 10 hi
  omega
