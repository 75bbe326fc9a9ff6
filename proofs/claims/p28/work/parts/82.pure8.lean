/-! disputes -/
theorem lg_gt0 {x y : Int64} (h : ¬ y < x) : ¬ 0 < lg_cmp x y := by
  unfold lg_cmp
  rw [if_neg h]
  split <;> decide
theorem lg_le0 {x y : Int64} (h : y < x) : ¬ lg_cmp x y ≤ 0 := by
  unfold lg_cmp
  rw [if_pos h]; decide
theorem l_neg : ∀ k : Fin 100, lN k.val - 100 < 0 := by decide +kernel
theorem P_lc1 {x : Int64} {a b : Nat} (ex : x = lN a) (h : a ≤ b) (hb : b < 2 ^ 62) : ¬ lN b < x := by
  rw [ex]
  exact fun z => absurd ((pk_lLT (by omega) (by omega)).mp z) (by omega)
theorem P_lc2 {a b : Nat} (h : b < a + 100) (ha : a < 2 ^ 62) (hb : b < 2 ^ 62) : lN b - 100 < lN a := by
  by_cases z : b < 100
  · have h1 := l_neg ⟨b, z⟩
    have h2 : (0 : Int64) ≤ lN a := by
      have := (pk_lLE (a := 0) (b := a) (by decide) (by omega)).mpr (Nat.zero_le _)
      exact this
    exact Int64.lt_of_lt_of_le h1 h2
  · rw [show (100 : Int64) = lN 100 from rfl, lN_sub (by omega)]
    exact (pk_lLT (by omega) (by omega)).mpr (by omega)
theorem obt_wm (v : wr_V) {i : Nat} (hi : i < 20) : (omk v >>> (nI i &&& 31)) &&& 1 = bI (obt v i) := by
  rw [bq_bit _ (by omega)]
  unfold omk
  rw [wm_bt _ _ (by omega)]; simp [hi]
theorem P_o1 (v : wr_V) {j : Nat} (hj : j < 10) : (omk v >>> (nI j &&& 31)) &&& 1 = bI (rdp v j) := by
  rw [obt_wm v (by omega)]; simp [obt, hj]
theorem P_o2 (v : wr_V) {j : Nat} (hj : j < 10) : (omk v >>> (nI (j + 10) &&& 31)) &&& 1 = bI (rse v j) := by
  rw [obt_wm v (by omega)]; simp [obt, show ¬ j + 10 < 10 by omega]
theorem wm_or (b : Nat → Bool) {k : Nat} (hk : k < 20) : nI (wm b 20) ||| (1 <<< (nI k &&& 31)) = nI (wm (va_up b k true) 20) := by
  apply b_ext
  intro i hi
  rw [b_or, wm_bt b _ hi, wm_bt _ _ hi, b_shl k (by omega) 1 hi]
  by_cases h : i = k
  · subst h
    rw [va_up_self, Nat.sub_self, bt_1 0 (by omega)]
    simp [hk]
  · rw [va_up_ne _ _ h]
    by_cases h2 : k ≤ i
    · rw [bt_1 (i - k) (by omega)]
      simp [h2, show ¬ i - k = 0 by omega]
    · simp [h2]
theorem slC_1a {n : Nat} {p q a : Int32} {b : Bool} (h : okN n p = false) : slC n p q a b = 1 := by simp [slC, h]
theorem slC_1b {n : Nat} {p q a : Int32} {b : Bool} (h : okN 10 q = false) : slC n p q a b = 1 := by simp [slC, h]
theorem slC_3 {n x : Nat} {p q a : Int32} {b : Bool} (h1 : okN n p = true) (h2 : okN 10 q = true) (e : a = nI x) (hx : x ≤ 100) (hb : b = true) : slC n p q a b = 3 := by
  unfold slC
  rw [h1, h2, rng_n e (rfl : (0 : Int32) = nI 0) (rfl : (100 : Int32) = nI 100) (by omega) (by decide) (by decide), hb]; simp [hx]
theorem slC_0 {n x : Nat} {p q a : Int32} {b : Bool} (h1 : okN n p = true) (h2 : okN 10 q = true) (e : a = nI x) (hx : x ≤ 100) (hb : b = false) : slC n p q a b = 0 := by
  unfold slC
  rw [h1, h2, rng_n e (rfl : (0 : Int32) = nI 0) (rfl : (100 : Int32) = nI 100) (by omega) (by decide) (by decide), hb]; simp [hx]
theorem slC_2 {n x : Nat} {p q a : Int32} {b : Bool} (h1 : okN n p = true) (h2 : okN 10 q = true) (e : a = nI x) (hx : 100 < x) (hx2 : x ≤ 1000) : slC n p q a b = 2 := by
  unfold slC
  rw [h1, h2, rng_n e (rfl : (0 : Int32) = nI 0) (rfl : (100 : Int32) = nI 100) (by omega) (by decide) (by decide)]
  simp [show ¬ x ≤ 100 by omega]
/-- a sum over the rides, where one has changed -/
theorem bx_one {rr : Nat → wr_V} {v' : wr_V} {k : Nat} (F : wr_V → Int32) : ∀ n, k < n → bx_sum (fun j => F (va_up rr k v' j)) n = bx_sum (fun j => F (rr j)) n + (F v' - F (rr k))
  | 0, h => absurd h (by omega)
  | n + 1, h => by
    simp only [bx_sum]
    by_cases e : k = n
    · subst e
      have : bx_sum (fun j => F (va_up rr k v' j)) k = bx_sum (fun j => F (rr j)) k := bx_congr k (fun j hj => by rw [va_up_ne _ _ (by omega)])
      rw [this, va_up_self, Int32.add_assoc]
      congr 1
      rw [Int32.add_comm, Int32.sub_add_cancel]
    · rw [bx_one F n (by omega), va_up_ne _ _ (show n ≠ k by omega), Int32.add_assoc, Int32.add_assoc, Int32.add_comm (F v' - F (rr k))]
theorem bx_upd (g : Nat → Int32) {r : Nat} {x : Int32} : ∀ n, r < n → bx_sum (upd g r x) n = bx_sum g n + (x - g r)
  | 0, h => absurd h (by omega)
  | n + 1, h => by
    simp only [bx_sum]
    by_cases e : r = n
    · subst e
      have : bx_sum (upd g r x) r = bx_sum g r := bx_congr r (fun j hj => pk_un (by omega))
      rw [this, pk_us, Int32.add_assoc]
      congr 1
      rw [Int32.add_comm, Int32.sub_add_cancel]
    · rw [bx_upd g n (by omega), pk_un (show n ≠ r by omega), Int32.add_assoc, Int32.add_assoc, Int32.add_comm (x - g r)]
section PJ8
variable {t n wk : Nat} {km mn : Int32} {po : Nat → Int32} {rr : Nat → wr_V} {d v o f g : Nat → Int32} {k r q : Nat} {pc : Int32} {b : Bool}
theorem P_chz (hJ : wJ t n km mn wk po rr) (ht : t ≤ 80) (hk : k < n) (hr : r < 10) (h : rch (rr k) r ≤ 0) : rch (rr k) r = 0 := by
  have h1 := hJ.ch ht hk hr
  have h2 := hJ.cle ht hk hr
  rw [h1] at h ⊢
  have := (nI_leI (b := 0) (by omega) (by decide)).mp h
  rw [show cN (rr k) r = 0 by omega]; rfl
theorem ds_c {w : wr_V} (h : dsB w r = false) : rfi w = true ∧ ¬ rch w r = 0 ∧ rdp w r = false := by
  simp only [dsB, Bool.or_eq_false_iff, Bool.not_eq_false', decide_eq_false_iff_not] at h
  exact ⟨h.1.1, h.1.2, h.2⟩
theorem P_ds1 {w : wr_V} (h1 : rfi w = true) (h2 : ¬ rch w r ≤ 0) (h3 : rdp w r = false) : (1 : Int32) = bI (!dsB w r) := by
  have : ¬ rch w r = 0 := fun z => h2 (by rw [z]; exact Int32.le_refl 0)
  simp [dsB, h1, this, h3, bI]
theorem J_dis (h : wJ t n km mn wk po rr) (ht : t ≤ 80) (hk : k < n) (hr : r < 10) (hc : dsB (rr k) r = false) : wJ (t + 1) n km mn wk po (va_up rr k (vDis (rr k) r)) := by
  have hn := h.2.1
  have hd := ds_c hc
  obtain ⟨h1, h2, h3, h4, h5⟩ := h.2.2.2.1 k hk
  refine h.set hk (wi_dis (h.wix (by omega))) ⟨h1, h2, fun j hj z => ?_, h4, h5⟩ (Nat.le_add_right _ _)
  by_cases e : j = r
  · subst e
    refine ⟨hd.1, ?_⟩
    have h6 := h.ch ht hk hr
    have h7 := h.cle ht hk hr
    show 0 < rch (rr k) j
    have h8 := hd.2.1
    rw [h6] at h8 ⊢
    refine nI_lt (a := 0) ?_ (by omega)
    rcases Nat.eq_zero_or_pos (cN (rr k) j) with z | z
    · rw [z] at h8; exact absurd rfl h8
    · exact z
  · have : rdp (vDis (rr k) r) j = rdp (rr k) j := va_up_ne _ _ e
    rw [this] at z
    exact h3 j hj z
theorem opd_one {v' : wr_V} (hk : k < n) {x : Int32} (e : nI (cb (fun i => rdp v' i && !rse v' i) 10) = nI (cb (fun i => rdp (rr k) i && !rse (rr k) i) 10) + x) : opdS (va_up rr k v') n = opdS rr n + x := by
  have h := bx_one (rr := rr) (v' := v') (fun w => nI (cb (fun i => rdp w i && !rse w i) 10)) n hk
  show bx_sum (fun j => (fun w => nI (cb (fun i => rdp w i && !rse w i) 10)) (va_up rr k v' j)) n = _
  rw [h]
  show opdS rr n + (nI (cb (fun i => rdp v' i && !rse v' i) 10) - nI (cb (fun i => rdp (rr k) i && !rse (rr k) i) 10)) = _
  rw [e, Int32.add_comm (nI (cb (fun i => rdp (rr k) i && !rse (rr k) i) 10)), Int32.add_sub_cancel]
theorem B_dis (hB : wB n km mn wk rr d v o f g) (hJ : wJ t n km mn wk po rr) (hk : k < n) (hn : n ≤ 20) (hr : r < 10) (hc : dsB (rr k) r = false) {o1 g1 : Nat → Int32} {p : Int32} (ep : p = nI r) (eo : o1 = upd o k (o k ||| (1 <<< (p &&& 31)))) (eg : g1 = upd g 4 (g 4 + 1)) : wB n km mn wk (va_up rr k (vDis (rr k) r)) d v o1 f g1 := by
  have hd := ds_c hc
  obtain ⟨h1, h2, h3, h4, h5, h6, h7, h8, h9, h10, h11⟩ := hB
  have key : ∀ {α : Type} (F : wr_V → α), F (vDis (rr k) r) = F (rr k) → ∀ j, F (va_up rr k (vDis (rr k) r) j) = F (rr j) := fun F e j => by
    by_cases z : j = k
    · subst z; rw [va_up_self]; exact e
    · rw [va_up_ne _ _ z]
  have hg : ∀ j, j ≠ 4 → g1 j = g j := fun j hj => by rw [eg]; exact pk_un hj
  refine ⟨fun j hj => by rw [key rdv rfl]; exact h1 j hj, fun j hj => by rw [key rfi rfl]; exact h2 j hj, fun j hj => by rw [key hdv rfl]; exact h3 j hj, fun j hj => by rw [key vmk rfl]; exact h4 j hj, fun j hj => ?_, fun j hj => ?_, by rw [hg 0 (by decide)]; exact h7, by rw [hg 1 (by decide)]; exact h8, by rw [hg 2 (by decide)]; exact h9, by rw [hg 3 (by decide)]; exact h10, ?_⟩
  · rw [eo]
    by_cases z : j = k
    · rw [z, pk_us, va_up_self, h5 k (by omega), ep]
      unfold omk
      rw [wm_or _ (by omega)]
      congr 2
      funext i
      unfold obt
      by_cases e : i = r
      · rw [e, va_up_self, if_pos hr]; exact (va_up_self _ _ _).symm
      · rw [va_up_ne _ _ e]
        split
        · exact (va_up_ne _ _ e).symm
        · rfl
    · rw [pk_un z, va_up_ne _ _ z]; exact h5 j hj
  · rw [h6 j hj]
    exact bx_congr n (fun i hi => by rw [key rrf rfl])
  · rw [eg, pk_us, h11]
    refine (opd_one hk ?_).symm
    have hs : rse (rr k) r = false := by
      cases z : rse (rr k) r with
      | false => rfl
      | true => have := (hJ.wix (k := k) (by omega)).2.2.2.2.1 r hr z; rw [hd.2.2] at this; cases this
    have e : (fun i => rdp (vDis (rr k) r) i && !rse (vDis (rr k) r) i) = va_up (fun i => rdp (rr k) i && !rse (rr k) i) r true := by
      funext i
      by_cases e : i = r
      · rw [e, va_up_self]
        show (va_up (rdp (rr k)) r true r && !rse (rr k) r) = true
        rw [va_up_self, hs]; rfl
      · rw [va_up_ne _ _ e]
        show (va_up (rdp (rr k)) r true i && !rse (rr k) i) = _
        rw [va_up_ne _ _ e]
    rw [e, cb_t _ hr (by simp [hd.2.2]), nI_1]
theorem or_z (o : Nat → Int32) {k : Nat} {o1 : Nat → Int32} (e : o1 = upd o k (o k ||| 0)) : o1 = o := by
  rw [e, show o k ||| 0 = o k from ?_, upd_id]
  apply b_ext; intro i hi; rw [b_or, b_0, Bool.or_false]
theorem add_z (g : Nat → Int32) {k : Nat} {g1 : Nat → Int32} (e : g1 = upd g k (g k + 0)) : g1 = g := by
  rw [e, Int32.add_zero, upd_id]
/-- a refund, as a number -/
theorem P_rfv (hJ : wJ t n km mn wk po rr) (ht : t ≤ 80) (hk : k < n) (hr : r < 10) (ep : pc = nI q) (hq : q ≤ 100) : rfv (rr k) r pc = nI (cN (rr k) r * q / 100) ∧ cN (rr k) r * q / 100 ≤ cN (rr k) r := by
  have h1 := hJ.ch ht hk hr
  have h2 := hJ.cle ht hk hr
  have h3 : cN (rr k) r * q ≤ 20000000 * 100 := Nat.mul_le_mul h2 hq
  have h4 : cN (rr k) r * q ≤ cN (rr k) r * 100 := Nat.mul_le_mul (Nat.le_refl _) hq
  refine ⟨?_, by omega⟩
  unfold rfv
  rw [h1, ep, nI_l (by omega), nI_l (by omega), lN_mul, show (100 : Int64) = lN 100 from rfl, pk_lDiv (by omega) (by decide) (by decide), lN_i]
theorem J_ref (h : wJ t n km mn wk po rr) (ht : t ≤ 80) (hk : k < n) (hr : r < 10) (hd : rdp (rr k) r = true) (ep : pc = nI q) (hq : q ≤ 100) : wJ (t + 1) n km mn wk po (va_up rr k (vRef (rr k) r pc b)) := by
  have hn := h.2.1
  obtain ⟨h1, h2, h3, h4, h5⟩ := h.2.2.2.1 k hk
  refine h.set hk (wi_ref (h.wix (by omega)) hd) ⟨h1, h2, h3, fun j hj z => ?_, fun j hj => ?_⟩ (Nat.le_add_right _ _)
  · by_cases e : j = r
    · subst e
      have : rse (vRef (rr k) j pc b) j = true := va_up_self _ _ _
      rw [this] at z; cases z
    · have e1 : rse (vRef (rr k) r pc b) j = rse (rr k) j := va_up_ne _ _ e
      have e2 : rrf (vRef (rr k) r pc b) j = rrf (rr k) j := pk_un e
      rw [e1] at z; rw [e2]; exact h4 j hj z
  · by_cases e : j = r
    · subst e
      have e2 : rrf (vRef (rr k) j pc b) j = rfv (rr k) j pc := pk_us
      obtain ⟨h6, h7⟩ := P_rfv h ht hk hr ep hq
      have h8 := h.cle ht hk hr
      have e3 : fN (vRef (rr k) j pc b) j = cN (rr k) j * q / 100 := by unfold fN; rw [e2, h6, nI_clamp (by omega)]
      rw [e2, e3]
      exact ⟨h6, h7⟩
    · have e2 : rrf (vRef (rr k) r pc b) j = rrf (rr k) j := pk_un e
      have e3 : fN (vRef (rr k) r pc b) j = fN (rr k) j := by unfold fN; rw [e2]
      rw [e2, e3]
      exact h5 j hj
theorem B_ref (hB : wB n km mn wk rr d v o f g) (hJ : wJ t n km mn wk po rr) (hk : k < n) (hn : n ≤ 20) (hr : r < 10) (hd : rdp (rr k) r = true) (hs : rse (rr k) r = false) {o1 f1 g1 : Nat → Int32} {p : Int32} (ep : p = nI (r + 10)) (eo : o1 = upd o k (o k ||| (1 <<< (p &&& 31)))) (ef : f1 = upd f r (f r + rfv (rr k) r pc)) (eg : g1 = upd g 4 (g 4 - 1)) : wB n km mn wk (va_up rr k (vRef (rr k) r pc b)) d v o1 f1 g1 := by
  obtain ⟨h1, h2, h3, h4, h5, h6, h7, h8, h9, h10, h11⟩ := hB
  have key : ∀ {α : Type} (F : wr_V → α), F (vRef (rr k) r pc b) = F (rr k) → ∀ j, F (va_up rr k (vRef (rr k) r pc b) j) = F (rr j) := fun F e j => by
    by_cases z : j = k
    · subst z; rw [va_up_self]; exact e
    · rw [va_up_ne _ _ z]
  have hg : ∀ j, j ≠ 4 → g1 j = g j := fun j hj => by rw [eg]; exact pk_un hj
  refine ⟨fun j hj => by rw [key rdv rfl]; exact h1 j hj, fun j hj => by rw [key rfi rfl]; exact h2 j hj, fun j hj => by rw [key hdv rfl]; exact h3 j hj, fun j hj => by rw [key vmk rfl]; exact h4 j hj, fun j hj => ?_, fun j hj => ?_, by rw [hg 0 (by decide)]; exact h7, by rw [hg 1 (by decide)]; exact h8, by rw [hg 2 (by decide)]; exact h9, by rw [hg 3 (by decide)]; exact h10, ?_⟩
  · rw [eo]
    by_cases z : j = k
    · rw [z, pk_us, va_up_self, h5 k (by omega), ep]
      unfold omk
      rw [wm_or _ (by omega)]
      congr 2
      funext i
      unfold obt
      by_cases e : i = r + 10
      · rw [e, va_up_self, if_neg (by omega), Nat.add_sub_cancel]; exact (va_up_self _ _ _).symm
      · rw [va_up_ne _ _ e]
        split
        · rfl
        · exact (va_up_ne _ _ (by omega)).symm
    · rw [pk_un z, va_up_ne _ _ z]; exact h5 j hj
  · rw [ef]
    have hx := bx_one (rr := rr) (v' := vRef (rr k) r pc b) (fun w => rrf w j) n hk
    show _ = bx_sum (fun i => (fun w => rrf w j) (va_up rr k (vRef (rr k) r pc b) i)) n
    rw [hx]
    show _ = bx_sum (fun i => rrf (rr i) j) n + (rrf (vRef (rr k) r pc b) j - rrf (rr k) j)
    rw [← h6 j hj]
    by_cases e : j = r
    · subst e
      have e2 : rrf (vRef (rr k) j pc b) j = rfv (rr k) j pc := pk_us
      have e3 : rrf (rr k) j = 0 := (hJ.2.2.2.1 k hk).2.2.2.1 j hr hs
      rw [pk_us, e2, e3, Int32.sub_zero]
    · have e2 : rrf (vRef (rr k) r pc b) j = rrf (rr k) j := pk_un e
      rw [pk_un e, e2, Int32.sub_self, Int32.add_zero]
  · rw [eg, pk_us, h11, Int32.sub_eq_add_neg]
    refine (opd_one hk ?_).symm
    have e : (fun i => rdp (rr k) i && !rse (rr k) i) = va_up (fun i => rdp (vRef (rr k) r pc b) i && !rse (vRef (rr k) r pc b) i) r true := by
      funext i
      by_cases e : i = r
      · rw [e, va_up_self, hd, hs]; rfl
      · rw [va_up_ne _ _ e]
        show _ = (rdp (rr k) i && !va_up (rse (rr k)) r true i)
        rw [va_up_ne _ _ e]
    have hz : (fun i => rdp (vRef (rr k) r pc b) i && !rse (vRef (rr k) r pc b) i) r = false := by
      show (rdp (rr k) r && !va_up (rse (rr k)) r true r) = false
      rw [va_up_self]; simp
    rw [e, cb_t _ hr hz, ← nI_1, Int32.add_assoc, Int32.add_right_neg, Int32.add_zero]
theorem P_spd1 (hJ : wJ t n km mn wk po rr) (hk : k < n) (hr : r < 10) (hf : rfi (rr k) = true) (hs : rse (rr k) r = false) : spdS (va_up rr k (vRef (rr k) r pc b)) n r = spdS rr n r - rfv (rr k) r pc := by
  have hx := bx_one (rr := rr) (v' := vRef (rr k) r pc b) (fun w => if rfi w then rch w r - rrf w r else 0) n hk
  show bx_sum (fun j => (fun w => if rfi w then rch w r - rrf w r else 0) (va_up rr k (vRef (rr k) r pc b) j)) n = _
  rw [hx]
  have hf2 : rfi (vRef (rr k) r pc b) = true := hf
  have e2 : rrf (vRef (rr k) r pc b) r = rfv (rr k) r pc := pk_us
  have e3 : rrf (rr k) r = 0 := (hJ.2.2.2.1 k hk).2.2.2.1 r hr hs
  have e4 : rch (vRef (rr k) r pc b) r = rch (rr k) r := rfl
  simp only [hf, hf2, if_true, e2, e3, e4, Int32.sub_zero]
  show spdS rr n r + (rch (rr k) r - rfv (rr k) r pc - rch (rr k) r) = _
  rw [Int32.sub_eq_add_neg (spdS rr n r)]
  congr 1
  rw [Int32.sub_eq_add_neg (rch (rr k) r), Int32.add_comm (rch (rr k) r), Int32.add_sub_cancel]
theorem allv_ref {w : wr_V} (hr : r < 10) (ha : rfa w r = false) : ∀ i, allv (vRef w r pc false) i = allv w i
  | 0 => rfl
  | i + 1 => by
    simp only [allv]
    rw [allv_ref hr ha i]
    congr 1
    have h1 : rch (vRef w r pc false) i = rch w i := rfl
    have h2 : rfa (vRef w r pc false) i = rfa w i := rfl
    rw [h1, h2]
    by_cases e : i = r
    · rw [e, ha]; simp
    · have : rrf (vRef w r pc false) i = rrf w i := pk_un e
      rw [this]
theorem void_ref {w : wr_V} (hr : r < 10) (ha : rfa w r = false) : voidR (vRef w r pc false) = voidR w := by
  unfold voidR
  rw [allv_ref hr ha]; rfl
theorem fdr_ref {w : wr_V} (ha : rfa w r = false) (i : Nat) : fdr (vRef w r pc false) i = fdr w i := by
  have h1 : rch (vRef w r pc false) i = rch w i := rfl
  have h2 : rfa (vRef w r pc false) i = rfa w i := rfl
  unfold fdr
  rw [h1, h2]
  by_cases e : i = r
  · rw [e, ha]; simp
  · have : rrf (vRef w r pc false) i = rrf w i := pk_un e
    rw [this]
theorem pay_ref (hr : r < 10) (ha : rfa (rr k) r = false) (x y : Int32) : payS (va_up rr k (vRef (rr k) r pc false)) n x y = payS rr n x y := by
  have key : ∀ {α : Type} (F : wr_V → α), F (vRef (rr k) r pc false) = F (rr k) → ∀ j, F (va_up rr k (vRef (rr k) r pc false) j) = F (rr j) := fun F e j => by
    by_cases z : j = k
    · subst z; rw [va_up_self]; exact e
    · rw [va_up_ne _ _ z]
  have k1 : ∀ j, fby (va_up rr k (vRef (rr k) r pc false)) x y j = fby rr x y j := fun j => key (fun w => fbyR w x y) rfl j
  have k2 : ∀ j, voidR (va_up rr k (vRef (rr k) r pc false) j) = voidR (rr j) := key voidR (void_ref hr ha)
  have k3 : ∀ j, fok (va_up rr k (vRef (rr k) r pc false)) x y j = fok rr x y j := fun j => by
    show (fby (va_up rr k (vRef (rr k) r pc false)) x y j && !voidR (va_up rr k (vRef (rr k) r pc false) j)) = _
    rw [k1, k2]; rfl
  have k4 : ∀ j, fdr (va_up rr k (vRef (rr k) r pc false) j) = fdr (rr j) := key fdr (funext (fdr_ref ha))
  have k5 : ∀ j, rmi (va_up rr k (vRef (rr k) r pc false) j) = rmi (rr j) := key rmi rfl
  have e1 : earnS (va_up rr k (vRef (rr k) r pc false)) n x y = earnS rr n x y := by
    unfold earnS
    exact bx_congr n (fun j _ => by rw [k1, k4])
  have e2 : minS (va_up rr k (vRef (rr k) r pc false)) n x y = minS rr n x y := by
    unfold minS
    exact bx_congr n (fun j _ => by rw [k3, k5])
  have e3 : cb (fok (va_up rr k (vRef (rr k) r pc false)) x y) n = cb (fok rr x y) n := cb_congr n (fun j _ => k3 j)
  unfold payS topS floorS bonS
  rw [e1, e2, e3]
theorem P_hou1 (hJ : wJ t n km mn wk po rr) (hk : k < n) (hr : r < 10) (hf : rfi (rr k) = true) (hs : rse (rr k) r = false) : houS (va_up rr k (vRef (rr k) r pc false)) n wk = houS rr n wk - rfv (rr k) r pc := by
  have hn := hJ.2.1
  have ha : rfa (rr k) r = false := by
    cases z : rfa (rr k) r with
    | false => rfl
    | true => have := (hJ.wix (k := k) (by omega)).2.2.2.1 r hr z; rw [hs] at this; cases this
  have e1 : bx_sum (fun x => payB (va_up rr k (vRef (rr k) r pc false)) n (nI x) (wk + 1)) 5 = bx_sum (fun x => payB rr n (nI x) (wk + 1)) 5 := bx_congr 5 (fun x _ => by
    unfold payB
    exact bx_congr (wk + 1) (fun w _ => pay_ref hr ha _ _))
  have hx := bx_one (rr := rr) (v' := vRef (rr k) r pc false) (fun w => if rfi w then bx_sum (rch w) 10 - bx_sum (rrf w) 10 else 0) n hk
  have hf2 : rfi (vRef (rr k) r pc false) = true := hf
  have e3 : rrf (rr k) r = 0 := (hJ.2.2.2.1 k hk).2.2.2.1 r hr hs
  have e4 : bx_sum (rrf (vRef (rr k) r pc false)) 10 = bx_sum (rrf (rr k)) 10 + rfv (rr k) r pc := by
    have := bx_upd (rrf (rr k)) (r := r) (x := rfv (rr k) r pc) 10 hr
    rw [e3, Int32.sub_zero] at this
    exact this
  have e5 : hrdS (va_up rr k (vRef (rr k) r pc false)) n = hrdS rr n - rfv (rr k) r pc := by
    show bx_sum (fun j => (fun w => if rfi w then bx_sum (rch w) 10 - bx_sum (rrf w) 10 else 0) (va_up rr k (vRef (rr k) r pc false) j)) n = _
    rw [hx]
    simp only [hf, hf2, if_true, e4]
    show hrdS rr n + (bx_sum (rch (rr k)) 10 - (bx_sum (rrf (rr k)) 10 + rfv (rr k) r pc) - (bx_sum (rch (rr k)) 10 - bx_sum (rrf (rr k)) 10)) = _
    rw [Int32.sub_eq_add_neg (hrdS rr n)]
    congr 1
    rw [← wy_subadd, Int32.sub_eq_add_neg (bx_sum (rch (rr k)) 10 - bx_sum (rrf (rr k)) 10), Int32.add_comm (bx_sum (rch (rr k)) 10 - bx_sum (rrf (rr k)) 10), Int32.add_sub_cancel]
  unfold houS
  rw [e1, e5, Int32.sub_eq_add_neg (hrdS rr n), Int32.sub_eq_add_neg (hrdS rr n), Int32.sub_eq_add_neg (hrdS rr n + _), Int32.sub_eq_add_neg (hrdS rr n + _), Int32.add_assoc, Int32.add_assoc, Int32.add_comm (-rfv (rr k) r pc)]
/-- what the law asks of a refund -/
theorem R_nn (hJ : wJ t n km mn wk po rr) (ht : t ≤ 80) (hk : k < n) (hr : r < 10) (ep : pc = nI q) (hq : q ≤ 100) : ¬ rfv (rr k) r pc < 0 ∧ ¬ rch (rr k) r < rfv (rr k) r pc := by
  obtain ⟨h1, h2⟩ := P_rfv hJ ht hk hr ep hq
  have h3 := hJ.cle ht hk hr
  rw [h1, hJ.ch ht hk hr]
  exact ⟨nI_pos (by omega), nI_nlt h2 (by omega)⟩
theorem R_all (hJ : wJ t n km mn wk po rr) (ht : t ≤ 80) (hk : k < n) (hr : r < 10) (ep : pc = nI q) (hq : q = 100) : rfv (rr k) r pc = rch (rr k) r := by
  obtain ⟨h1, h2⟩ := P_rfv hJ ht hk hr ep (by omega)
  rw [h1, hJ.ch ht hk hr, hq]
  congr 1
  omega
theorem R_no (hJ : wJ t n km mn wk po rr) (ht : t ≤ 80) (hk : k < n) (hr : r < 10) (ep : pc = nI q) (hq : q = 0) : rfv (rr k) r pc = 0 := by
  obtain ⟨h1, h2⟩ := P_rfv hJ ht hk hr ep (by omega)
  rw [h1, hq, Nat.mul_zero]; rfl
theorem R_l1 (hJ : wJ t n km mn wk po rr) (ht : t ≤ 80) (hk : k < n) (hr : r < 10) (ep : pc = nI q) (hq : q ≤ 100) : ¬ 0 < lg_cmp ((rfv (rr k) r pc).toInt64 * 100) ((rch (rr k) r).toInt64 * pc.toInt64) := by
  obtain ⟨h1, h2⟩ := P_rfv hJ ht hk hr ep hq
  have h3 := hJ.cle ht hk hr
  have h4 : cN (rr k) r * q ≤ 20000000 * 100 := Nat.mul_le_mul h3 hq
  refine lg_gt0 ?_
  rw [h1, hJ.ch ht hk hr, ep, nI_l (by omega), nI_l (by omega), nI_l (by omega), lN_mul, show (100 : Int64) = lN 100 from rfl, lN_mul]
  exact P_lc1 rfl (by omega) (by omega)
theorem R_l2 (hJ : wJ t n km mn wk po rr) (ht : t ≤ 80) (hk : k < n) (hr : r < 10) (ep : pc = nI q) (hq : q ≤ 100) : ¬ lg_cmp ((rfv (rr k) r pc).toInt64 * 100) ((rch (rr k) r).toInt64 * pc.toInt64 - 100) ≤ 0 := by
  obtain ⟨h1, h2⟩ := P_rfv hJ ht hk hr ep hq
  have h3 := hJ.cle ht hk hr
  have h4 : cN (rr k) r * q ≤ 20000000 * 100 := Nat.mul_le_mul h3 hq
  refine lg_le0 ?_
  rw [h1, hJ.ch ht hk hr, ep, nI_l (by omega), nI_l (by omega), nI_l (by omega), lN_mul, show lN (cN (rr k) r * q / 100) * 100 = lN (cN (rr k) r * q / 100 * 100) from lN_mul _ 100]
  exact P_lc2 (by omega) (by omega) (by omega)
end PJ8
theorem R_set {w : wr_V} {r : Nat} {pc : Int32} {b : Bool} : (!rdp (vRef w r pc b) r || rse (vRef w r pc b) r) = true := by
  show (_ || va_up (rse w) r true r) = true
  rw [va_up_self]; simp
theorem n_ngt0 {p : Int32} {b : Nat} (e : p = nI b) (hb : b < 2 ^ 31) (h : ¬ 0 < p) : b = 0 := by
  rcases Nat.eq_zero_or_pos b with z | z
  · exact z
  · rw [e] at h
    exact absurd (nI_lt (a := 0) z hb) h
