/-! THE REFERENCE'S WORLD, told by the same rides -/
def stN (v : wr_V) (r : Nat) : Nat := if rfi v then 0 else if rbk v r then 1 else if rsd v r then 2 else 0
def dpN (v : wr_V) (r : Nat) : Nat := if rdp v r then (if rse v r then (if rfa v r then 3 else 2) else 1) else 0
def hdv (v : wr_V) : Bool := !decide (rmi v = 0)
/-- what holds of every ride after t calls -/
def wi (t : Nat) (v : wr_V) : Prop := (∀ r, r < 10 → rbk v r = true → rsd v r = false) ∧ (rfi v = true → ∀ r, r < 10 → rsd v r = false) ∧ cb (rbk v) 10 + cb (rsd v) 10 ≤ 4 ∧ (∀ r, r < 10 → rfa v r = true → rse v r = true) ∧ (∀ r, r < 10 → rse v r = true → rdp v r = true) ∧ (∃ m, m ≤ 120 * t ∧ rmi v = nI m) ∧ ∀ r, r < 10 → ∃ c, c ≤ 220001 * t ∧ rch v r = nI c
def wm_k (k : Nat) (v : wr_V) (g0 g1 g2 g3 g4 g5 g6 g7 g8 : Nat → Int32) : Prop := g0 k = rdv v ∧ g1 k = rwk v ∧ g2 k = rmi v ∧ g3 k = bI (rfi v) ∧ g4 k = bI (hdv v) ∧ ∀ r, r < 10 → g5 (10 * k + r) = nI (stN v r) ∧ g6 (10 * k + r) = rch v r ∧ g7 (10 * k + r) = nI (dpN v r) ∧ g8 (10 * k + r) = rrf v r
def wm_r (po : Nat → Int32) (rr : Nat → wr_V) (g0 g1 g2 g3 g4 g5 g6 g7 g8 g9 : Nat → Int32) : Prop := (∀ k, k < 40 → wm_k k (rr k) g0 g1 g2 g3 g4 g5 g6 g7 g8) ∧ ∀ d, d < 5 → g9 d = po d
def wm_S (G : wy_G) (L : List Nat) (f : Nat → va_E) (om : Nat) (ma : Nat → Nat) (n : Nat) (km mn : Int32) (wk : Nat) (th : Int32) (g0 g1 g2 g3 g4 g5 g6 g7 g8 g9 : Nat → Int32) : Prop :=
  wy_c L f om (.inr (3, [.int km, .int mn, .int (nI n), .ref (ma 0), .ref (ma 1), .ref (ma 2), .ref (ma 3), .ref (ma 4), .ref (ma 5), .ref (ma 6), .ref (ma 7), .ref (ma 8), .int (nI wk), .ref (ma 9), .int th])) ∧
  wy_c L f (ma 0) (.inl (G.2 0, 40, .inl g0)) ∧ wy_c L f (ma 1) (.inl (G.2 0, 40, .inl g1)) ∧ wy_c L f (ma 2) (.inl (G.2 0, 40, .inl g2)) ∧ wy_c L f (ma 3) (.inl (G.2 1, 40, .inl g3)) ∧ wy_c L f (ma 4) (.inl (G.2 1, 40, .inl g4)) ∧
  wy_c L f (ma 5) (.inl (G.2 0, 400, .inl g5)) ∧ wy_c L f (ma 6) (.inl (G.2 0, 400, .inl g6)) ∧ wy_c L f (ma 7) (.inl (G.2 0, 400, .inl g7)) ∧ wy_c L f (ma 8) (.inl (G.2 0, 400, .inl g8)) ∧ wy_c L f (ma 9) (.inl (G.2 0, 5, .inl g9)) ∧
  (∀ i, i < 10 → om ≠ ma i) ∧ (∀ i j, i < 10 → j < 10 → i ≠ j → ma i ≠ ma j) ∧ n ≤ 40 ∧ wk ≤ 20
/-- what a method of the reference says that writes: its answer, what it notes as thrown, the purse behind it -/
def wm_p (G : wy_G) (L : List Nat) (om : Nat) (ma : Nat → Nat) (n : Nat) (km mn : Int32) (wk : Nat) (po : Nat → Int32) (rr : Nat → wr_V) (th : Int32) (r : Option Value) : Option Value → List Nat → (Nat → va_E) → Prop := fun r' L' f' => r' = r ∧ L' = L ∧ ∃ g0 g1 g2 g3 g4 g5 g6 g7 g8 g9, wm_S G L f' om ma n km mn wk th g0 g1 g2 g3 g4 g5 g6 g7 g8 g9 ∧ wm_r po rr g0 g1 g2 g3 g4 g5 g6 g7 g8 g9
/-- the same where only what was thrown changes -/
def wm_t (G : wy_G) (L : List Nat) (om : Nat) (ma : Nat → Nat) (n : Nat) (km mn : Int32) (wk : Nat) (th : Int32) (g0 g1 g2 g3 g4 g5 g6 g7 g8 g9 : Nat → Int32) (r : Option Value) : Option Value → List Nat → (Nat → va_E) → Prop := fun r' L' f' => r' = r ∧ L' = L ∧ wm_S G L f' om ma n km mn wk th g0 g1 g2 g3 g4 g5 g6 g7 g8 g9
/-! arguments -/
def rngB (v a b : Int32) : Bool := decide (a ≤ v) && decide (v ≤ b)
def okN (n : Nat) (p : Int32) : Bool := !decide (p < 0) && decide (p < nI n)
def ix (p : Int32) : Nat := p.toNatClampNeg
theorem okN_ix {n : Nat} {p : Int32} (h : okN n p = true) (hn : n < 2 ^ 31) : ix p < n ∧ p = nI (ix p) := by
  simp only [okN, Bool.and_eq_true, Bool.not_eq_true', decide_eq_false_iff_not, decide_eq_true_eq] at h
  obtain ⟨j, hj, rfl⟩ := nI_of h.1
  have e : ix (nI j) = j := nI_clamp hj
  rw [e]
  exact ⟨(nI_ltI hj hn).mp h.2, rfl⟩
theorem okN_of {n j : Nat} {p : Int32} (h : p = nI j) (hj : j < n) (hn : n < 2 ^ 31) : okN n p = true := by
  subst h
  simp [okN, nI_pos (show j < 2 ^ 31 by omega), nI_lt hj hn]
theorem ix_nI {j : Nat} (h : j < 2 ^ 31) : ix (nI j) = j := nI_clamp h
theorem rng_okN {n : Nat} {p q : Int32} (hn : n < 2 ^ 31) (hq : q + 1 = nI n) (hq2 : n = 0 → q = -1) : rngB p 0 q = okN n p := by
  rcases Nat.eq_zero_or_pos n with h0 | h0
  · subst h0
    have e := hq2 rfl
    subst e
    unfold rngB okN
    by_cases h : (0 : Int32) ≤ p
    · have h1 : ¬ p ≤ -1 := fun z => absurd (Int32.le_trans h z) (by decide)
      have h2 : ¬ p < nI 0 := Int32.not_lt.mpr h
      simp [h1, h2]
    · simp [h, Int32.not_le.mp h]
  · obtain ⟨j, rfl⟩ : ∃ j, n = j + 1 := ⟨n - 1, by omega⟩
    have e : q = nI j := by
      have h1 : q + 1 - 1 = nI (j + 1) - 1 := by rw [hq]
      rw [nI_pred] at h1
      rw [← h1, Int32.add_sub_cancel]
    subst e
    unfold rngB okN
    by_cases h : p < 0
    · simp [h, Int32.not_le.mpr h]
    · obtain ⟨i, hi, rfl⟩ := nI_of h
      have a1 : ((0 : Int32) ≤ nI i) = True := by simp [nI_pos' hi]
      simp only [a1, decide_true, Bool.true_and, h, decide_false, Bool.not_false]
      by_cases c : i ≤ j
      · rw [decide_eq_true (nI_le c (by omega)), decide_eq_true (nI_lt (show i < j + 1 by omega) hn)]
      · rw [decide_eq_false (fun z => c ((nI_leI hi (by omega)).mp z)), decide_eq_false (fun z => c (Nat.le_of_lt_succ ((nI_ltI hi hn).mp z)))]
/-! where a ride's ten places of a row are written one after the other -/
def arr (g : Nat → Int32) (k : Nat) (F : Nat → Int32) (i : Nat) : Nat → Int32 := fun x => if 10 * k ≤ x ∧ x < 10 * k + i then F (x - 10 * k) else g x
theorem arr_0 (g : Nat → Int32) (k : Nat) (F : Nat → Int32) : arr g k F 0 = g := by
  funext x; simp only [arr]; rw [if_neg (by omega)]
theorem arr_here (g : Nat → Int32) (k : Nat) (F : Nat → Int32) (i : Nat) : arr g k F i (10 * k + i) = g (10 * k + i) := by
  simp only [arr]; rw [if_neg (by omega)]
theorem arr_t (g : Nat → Int32) (k : Nat) (F : Nat → Int32) (i : Nat) {z : Int32} (hz : z = F i) : upd (arr g k F i) (10 * k + i) z = arr g k F (i + 1) := by
  funext x
  by_cases e : x = 10 * k + i
  · subst e
    simp only [upd, arr, if_true]
    rw [if_pos (by omega), hz, Nat.add_sub_cancel_left]
  · simp only [upd, arr, if_neg e]
    by_cases h : 10 * k ≤ x ∧ x < 10 * k + i
    · rw [if_pos h, if_pos (by omega)]
    · rw [if_neg h, if_neg (by omega)]
theorem arr_f (g : Nat → Int32) (k : Nat) (F : Nat → Int32) (i : Nat) (h : F i = g (10 * k + i)) : arr g k F i = arr g k F (i + 1) := by
  rw [← arr_t g k F i rfl, h]
  funext x
  by_cases e : x = 10 * k + i
  · subst e; simp [upd, arr_here]
  · simp [upd, e]
theorem arr_in (g : Nat → Int32) (k : Nat) (F : Nat → Int32) {r : Nat} (hr : r < 10) : arr g k F 10 (10 * k + r) = F r := by
  simp only [arr]; rw [if_pos (by omega), Nat.add_sub_cancel_left]
theorem arr_out (g : Nat → Int32) (k : Nat) (F : Nat → Int32) {j r : Nat} (hj : j ≠ k) (hr : r < 10) : arr g k F 10 (10 * j + r) = g (10 * j + r) := by
  simp only [arr]; rw [if_neg (by omega)]
/-! many -/
def mny (v : wr_V) (w : Nat) : Nat := cb (fun r => decide (stN v r = w)) 10
theorem mny1 {t : Nat} {v : wr_V} (h : rfi v = false) : mny v 1 = cb (rbk v) 10 := cb_congr 10 (fun r hr => by
  simp only [stN, h, Bool.false_eq_true, if_false]
  cases rbk v r <;> simp
  cases rsd v r <;> simp)
theorem mny2 {t : Nat} {v : wr_V} (hi : wi t v) (h : rfi v = false) : mny v 2 = cb (rsd v) 10 := cb_congr 10 (fun r hr => by
  simp only [stN, h, Bool.false_eq_true, if_false]
  have := hi.1 r hr
  cases hb : rbk v r with
  | true => simp [this hb]
  | false => cases rsd v r <;> simp)
theorem mny2f {v : wr_V} (h : rfi v = true) : mny v 2 = 0 := by
  have : ∀ n, cb (fun r => decide (stN v r = 2)) n = 0 := by
    intro n
    induction n with
    | zero => rfl
    | succ n ih => simp only [cb, ih]; simp [stN, h]
  exact this 10
theorem cb_pos (b : Nat → Bool) {i : Nat} (h : b i = true) : ∀ n, i < n → 0 < cb b n
  | 0, hn => absurd hn (by omega)
  | n + 1, hn => by
    by_cases e : i = n
    · subst e; simp [cb, h]
    · have := cb_pos b h n (by omega)
      simp only [cb]; omega
theorem wi_c {t : Nat} {v : wr_V} (h : wi t v) (ht : t ≤ 512) {r : Nat} (hr : r < 10) : ∃ c, c < 2 ^ 31 ∧ rch v r = nI c := by
  obtain ⟨c, h1, h2⟩ := h.2.2.2.2.2.2 r hr
  exact ⟨c, by omega, h2⟩
theorem wi_pos {t : Nat} {v : wr_V} (h : wi t v) (ht : t ≤ 512) {r : Nat} (hr : r < 10) (hle : rch v r ≤ 0) : rch v r = 0 := by
  obtain ⟨c, h1, h2⟩ := wi_c h ht hr
  rw [h2] at hle ⊢
  have : c ≤ 0 := (nI_leI h1 (by decide)).mp hle
  rw [Nat.le_zero.mp this]; rfl
theorem wi_fa {t : Nat} {v : wr_V} (h : wi t v) {r : Nat} (hr : r < 10) (hn : ¬ dpN v r = 3) : rfa v r = false := by
  cases hf : rfa v r with
  | false => rfl
  | true =>
    have h1 := h.2.2.2.1 r hr hf
    have h2 := h.2.2.2.2.1 r hr h1
    exact absurd (by simp [dpN, hf, h1, h2]) hn
theorem dpN3 {v : wr_V} {r : Nat} (h : dpN v r = 3) : rfa v r = true := by
  unfold dpN at h
  split at h <;> (try split at h) <;> (try split at h) <;> first | assumption | (exact absurd h (by decide))
theorem anyc_n (g : Nat → Int32) : ∀ n, anyc g n = decide (0 < cb (fun r => decide (0 < g r)) n)
  | 0 => rfl
  | n + 1 => by
    simp only [anyc, anyc_n g n, cb]
    by_cases h : 0 < g n <;> simp [h]
theorem anyc_cb (g : Nat → Int32) : anyc g 10 = decide (0 < cb (fun r => decide (0 < g r)) 10) := anyc_n g 10
def muB (rr : Nat → wr_V) (p1 : Int32) (k : Nat) : Bool := !rfi (rr k) && (decide (p1 = -1) || decide (rdv (rr k) = p1))
/-! all places of all rides, one after the other -/
theorem wm_fl {k : Nat} : 10 * (k / 10) + k % 10 = k := by omega
theorem wm_at6 {po : Nat → Int32} {rr : Nat → wr_V} {g0 g1 g2 g3 g4 g5 g6 g7 g8 g9 : Nat → Int32} (hm : wm_r po rr g0 g1 g2 g3 g4 g5 g6 g7 g8 g9) {i : Nat} (h : i < 400) : g6 i = rch (rr (i / 10)) (i % 10) := by
  have := ((hm.1 (i / 10) (by omega)).2.2.2.2.2 (i % 10) (by omega)).2.1
  rw [wm_fl] at this; exact this
theorem wm_at7 {po : Nat → Int32} {rr : Nat → wr_V} {g0 g1 g2 g3 g4 g5 g6 g7 g8 g9 : Nat → Int32} (hm : wm_r po rr g0 g1 g2 g3 g4 g5 g6 g7 g8 g9) {i : Nat} (h : i < 400) : g7 i = nI (dpN (rr (i / 10)) (i % 10)) := by
  have := ((hm.1 (i / 10) (by omega)).2.2.2.2.2 (i % 10) (by omega)).2.2.1
  rw [wm_fl] at this; exact this
theorem wm_at8 {po : Nat → Int32} {rr : Nat → wr_V} {g0 g1 g2 g3 g4 g5 g6 g7 g8 g9 : Nat → Int32} (hm : wm_r po rr g0 g1 g2 g3 g4 g5 g6 g7 g8 g9) {i : Nat} (h : i < 400) : g8 i = rrf (rr (i / 10)) (i % 10) := by
  have := ((hm.1 (i / 10) (by omega)).2.2.2.2.2 (i % 10) (by omega)).2.2.2
  rw [wm_fl] at this; exact this
theorem bx_congr {a b : Nat → Int32} : ∀ n, (∀ k, k < n → a k = b k) → bx_sum a n = bx_sum b n
  | 0, _ => rfl
  | n + 1, h => by
    simp only [bx_sum]
    rw [bx_congr n (fun k hk => h k (by omega)), h n (by omega)]
theorem bx_add (a : Nat → Int32) (n : Nat) : ∀ m, bx_sum a (n + m) = bx_sum a n + bx_sum (fun k => a (n + k)) m
  | 0 => (Int32.add_zero _).symm
  | m + 1 => by
    show bx_sum a (n + m) + a (n + m) = _
    rw [bx_add a n m, Int32.add_assoc]; rfl
theorem bx_flat (a : Nat → Int32) : ∀ n, bx_sum a (10 * n) = bx_sum (fun k => bx_sum (fun r => a (10 * k + r)) 10) n
  | 0 => rfl
  | n + 1 => by
    rw [show 10 * (n + 1) = 10 * n + 10 by omega, bx_add, bx_flat a n]; rfl
theorem bx_0 (n : Nat) : bx_sum (fun _ => 0) n = 0 := by
  induction n with
  | zero => rfl
  | succ n ih => simp only [bx_sum, ih]; rfl
theorem earn_flat (rr : Nat → wr_V) (n : Nat) (p q : Int32) : bx_sum (fun i => if fby rr p q (i / 10) then fdr (rr (i / 10)) (i % 10) else 0) (10 * n) = earnS rr n p q := by
  rw [bx_flat]
  refine bx_congr n (fun k hk => ?_)
  rw [bx_congr (b := fun r => if fby rr p q k then fdr (rr k) r else 0) 10 (fun r hr => by
    rw [show (10 * k + r) / 10 = k by omega, show (10 * k + r) % 10 = r by omega])]
  cases fby rr p q k with
  | true => rfl
  | false => exact bx_0 10
theorem tops_n {a b : Int32} (h : a - b ≤ 0) : (0 : Int32) = if a - b < 0 then 0 else a - b := by
  by_cases c : a - b < 0
  · rw [if_pos c]
  · rw [if_neg c]; exact (Int32.le_antisymm h (Int32.not_lt.mp c)).symm
theorem tops_p {a b : Int32} (h : ¬ a - b ≤ 0) : a - b = if a - b < 0 then 0 else a - b := by
  rw [if_neg (fun c => h (Int32.le_of_lt c))]
