/-! WHAT THE LAW KEEPS (p28), AND WHAT FOLLOWS FROM IT -/
def ns (h : Nat → Nat) : Nat → Nat
  | 0 => 0
  | n + 1 => ns h n + h n
theorem ns_le {a b : Nat → Nat} : ∀ n, (∀ k, k < n → a k ≤ b k) → ns a n ≤ ns b n
  | 0, _ => Nat.le_refl _
  | n + 1, h => Nat.add_le_add (ns_le n (fun k hk => h k (by omega))) (h n (by omega))
theorem ns_congr {a b : Nat → Nat} : ∀ n, (∀ k, k < n → a k = b k) → ns a n = ns b n
  | 0, _ => rfl
  | n + 1, h => by simp only [ns]; rw [ns_congr n (fun k hk => h k (by omega)), h n (by omega)]
theorem ns_one (a : Nat → Nat) {k : Nat} : ∀ n, k < n → a k ≤ ns a n
  | 0, h => absurd h (by omega)
  | n + 1, h => by
    simp only [ns]
    by_cases e : k = n
    · subst e; omega
    · have := ns_one a n (show k < n by omega); omega
theorem ns_up (a : Nat → Nat) {k : Nat} {x : Nat} : ∀ n, k < n → ns (va_up a k x) n + a k = ns a n + x
  | 0, h => absurd h (by omega)
  | n + 1, h => by
    simp only [ns]
    by_cases e : k = n
    · subst e
      have : ns (va_up a k x) k = ns a k := ns_congr k (fun j hj => va_up_ne _ _ (by omega))
      rw [this, va_up_self]; omega
    · have := ns_up a (x := x) n (show k < n by omega)
      rw [va_up_ne _ _ (show n ≠ k by omega)]; omega
theorem ns_const (c : Nat) : ∀ n, ns (fun _ => c) n = c * n
  | 0 => rfl
  | n + 1 => by simp only [ns]; rw [ns_const c n, Nat.mul_succ]
theorem bx_ns {g : Nat → Int32} {h : Nat → Nat} : ∀ n, (∀ k, k < n → g k = nI (h k)) → bx_sum g n = nI (ns h n)
  | 0, _ => rfl
  | n + 1, hh => by simp only [bx_sum, ns]; rw [bx_ns n (fun k hk => hh k (by omega)), hh n (by omega), nI_add]
def cN (v : wr_V) (r : Nat) : Nat := (rch v r).toNatClampNeg
def fN (v : wr_V) (r : Nat) : Nat := (rrf v r).toNatClampNeg
def tN (v : wr_V) : Nat := ns (cN v) 10
/-- a ride: its week and driver, what is disputed and paid back -/
def wj_r (wk : Nat) (v : wr_V) : Prop :=
  (∃ w, w ≤ wk ∧ rwk v = nI w) ∧ (∃ k, k < 5 ∧ rdv v = nI k) ∧ (∀ r, r < 10 → rdp v r = true → rfi v = true ∧ 0 < rch v r) ∧ (∀ r, r < 10 → rse v r = false → rrf v r = 0) ∧ (∀ r, r < 10 → rrf v r = nI (fN v r) ∧ fN v r ≤ cN v r)
def wJ (t n : Nat) (km mn : Int32) (wk : Nat) (po : Nat → Int32) (rr : Nat → wr_V) : Prop :=
  wI t n km mn rr ∧ n ≤ 20 ∧ wk ≤ 20 ∧ (∀ k, k < n → wj_r wk (rr k)) ∧ ns (fun k => tN (rr k)) n ≤ 250000 * t ∧ ∀ d, d < 5 → ∃ c, c < 2 ^ 31 ∧ po d = nI c
def vmk (v : wr_V) : Int32 := if rfi v then 0 else mks (rbk v)
def obt (v : wr_V) (i : Nat) : Bool := if i < 10 then rdp v i else rse v (i - 10)
def omk (v : wr_V) : Int32 := nI (wm (obt v) 20)
/-- the law's own books -/
def wB (n : Nat) (km mn : Int32) (wk : Nat) (rr : Nat → wr_V) (d v o f g : Nat → Int32) : Prop :=
  (∀ k, k < n → d k = rdv (rr k)) ∧ (∀ k, k < 20 → d (20 + k) = bI (rfi (rr k))) ∧ (∀ k, k < 20 → d (40 + k) = bI (hdv (rr k))) ∧ (∀ k, k < 20 → v k = vmk (rr k)) ∧ (∀ k, k < 20 → o k = omk (rr k)) ∧
  (∀ r, r < 10 → f r = bx_sum (fun k => rrf (rr k) r) n) ∧ g 0 = nI n ∧ g 1 = nI wk ∧ g 2 = km ∧ g 3 = mn ∧ g 4 = opdS rr n
section PJ
variable {t n wk : Nat} {km mn : Int32} {po : Nat → Int32} {rr : Nat → wr_V}
theorem wJ.ch (h : wJ t n km mn wk po rr) (ht : t ≤ 80) {k r : Nat} (hk : k < n) (hr : r < 10) : rch (rr k) r = nI (cN (rr k) r) := by
  obtain ⟨c, hc, e⟩ := wi_c (h.1.1 k (by have := h.2.1; omega)) (by omega) hr
  rw [e]; congr 1
  show c = (rch (rr k) r).toNatClampNeg
  rw [e, nI_clamp hc]
theorem wJ.tot (h : wJ t n km mn wk po rr) (ht : t ≤ 80) : ns (fun k => tN (rr k)) n ≤ 20000000 := by
  have := h.2.2.2.2.1
  omega
theorem wJ.cle (h : wJ t n km mn wk po rr) (ht : t ≤ 80) {k r : Nat} (hk : k < n) (hr : r < 10) : cN (rr k) r ≤ 20000000 := by
  have h1 := h.tot ht
  have h2 := ns_one (fun k => tN (rr k)) n hk
  have h3 := ns_one (cN (rr k)) 10 hr
  simp only [tN] at h1 h2
  omega
theorem wJ.rf (h : wJ t n km mn wk po rr) (ht : t ≤ 80) {k r : Nat} (hk : k < n) (hr : r < 10) : rrf (rr k) r = nI (fN (rr k) r) ∧ fN (rr k) r ≤ cN (rr k) r := (h.2.2.2.1 k hk).2.2.2.2 r hr
theorem wJ.rf0 (h : wJ t n km mn wk po rr) {k r : Nat} (hk : k < n) (hr : r < 10) (hf : rfi (rr k) = false) : rrf (rr k) r = 0 := by
  have hk20 := h.2.1
  refine (h.2.2.2.1 k hk).2.2.2.1 r hr ?_
  cases hs : rse (rr k) r with
  | false => rfl
  | true =>
    have h1 := (h.1.1 k (by omega)).2.2.2.2.1 r hr hs
    have h2 := ((h.2.2.2.1 k hk).2.2.1 r hr h1).1
    rw [hf] at h2; cases h2
theorem nI_nn {a : Nat} (h : a < 2 ^ 31) : ¬ nI a < 0 := nI_pos h
/-- what the driver gets for a rider, as a number -/
def eN (v : wr_V) (r : Nat) : Nat := (if rfa v r then cN v r - fN v r else cN v r) - (if rfa v r then cN v r - fN v r else cN v r) / 5
theorem wJ.fdv (h : wJ t n km mn wk po rr) (ht : t ≤ 80) {k r : Nat} (hk : k < n) (hr : r < 10) : fdr (rr k) r = nI (eN (rr k) r) ∧ eN (rr k) r ≤ cN (rr k) r := by
  have h1 := h.ch ht hk hr
  have h2 := h.rf ht hk hr
  have h3 := h.cle ht hk hr
  constructor
  · have key : ∀ x : Nat, x < 2 ^ 31 → nI x - nI x / 5 = nI (x - x / 5) := fun x hx => by
      rw [show (5 : Int32) = nI 5 from rfl, pk_div hx (by decide) (by decide), pk_sub (Nat.div_le_self _ _)]
    unfold fdr eN
    cases rfa (rr k) r with
    | true =>
      simp only [if_true]
      rw [h1, h2.1, pk_sub h2.2]
      exact key _ (by omega)
    | false =>
      simp only [Bool.false_eq_true, if_false]
      rw [h1]
      exact key _ (by omega)
  · unfold eN
    split <;> omega
theorem ns_two {F : Nat → Nat → Nat} : ∀ n, (∀ k, k < n → ns (F k) 10 ≤ tN (rr k)) → ns (fun k => ns (F k) 10) n ≤ ns (fun k => tN (rr k)) n := fun n h => ns_le n h
theorem wJ.earn (h : wJ t n km mn wk po rr) (ht : t ≤ 80) (d w : Int32) : ∃ x, x ≤ 20000000 ∧ earnS rr n d w = nI x := by
  refine ⟨ns (fun k => if fby rr d w k then ns (eN (rr k)) 10 else 0) n, ?_, ?_⟩
  · refine Nat.le_trans (ns_le (b := fun k => tN (rr k)) n (fun k hk => ?_)) (h.tot ht)
    split
    · exact ns_le 10 (fun r hr => (h.fdv ht hk hr).2)
    · exact Nat.zero_le _
  · unfold earnS
    refine bx_ns n (fun k hk => ?_)
    split
    · exact bx_ns 10 (fun r hr => (h.fdv ht hk hr).1)
    · rfl
theorem wJ.mins (h : wJ t n km mn wk po rr) (ht : t ≤ 80) (d w : Int32) : ∃ x, x ≤ 192000 ∧ minS rr n d w = nI x := by
  have hn := h.2.1
  have key : ∀ k, k < n → ∃ m, m ≤ 9600 ∧ rmi (rr k) = nI m := fun k hk => by
    obtain ⟨m, h1, h2⟩ := (h.1.1 k (by omega)).2.2.2.2.2.1
    exact ⟨m, by omega, h2⟩
  have all : ∀ i, i ≤ n → ∃ x, x ≤ 9600 * i ∧ bx_sum (fun k => if fok rr d w k then rmi (rr k) else 0) i = nI x := by
    intro i
    induction i with
    | zero => exact fun _ => ⟨0, by omega, rfl⟩
    | succ i ih =>
      intro hi
      obtain ⟨x, h1, h2⟩ := ih (by omega)
      obtain ⟨m, h3, h4⟩ := key i (by omega)
      simp only [bx_sum]
      rw [h2]
      cases fok rr d w i with
      | true => exact ⟨x + m, by omega, by simp only [if_true]; rw [h4, nI_add]⟩
      | false => exact ⟨x, by omega, by simp⟩
  obtain ⟨x, h1, h2⟩ := all n (Nat.le_refl _)
  exact ⟨x, by omega, h2⟩
theorem wJ.top (h : wJ t n km mn wk po rr) (ht : t ≤ 80) (d w : Int32) : ∃ x, x ≤ 4800000 ∧ topS rr n d w = nI x := by
  obtain ⟨m, hm, e1⟩ := h.mins ht d w
  obtain ⟨q, hq, e2⟩ := h.earn ht d w
  have e3 : floorS rr n d w = nI (1500 * m / 60) := by
    unfold floorS
    rw [e1, show (1500 : Int32) = nI 1500 from rfl, show (60 : Int32) = nI 60 from rfl, pk_mul, pk_div (by omega) (by decide) (by decide)]
  unfold topS
  rw [e3, e2]
  by_cases z : 1500 * m / 60 < q
  · exact ⟨0, by omega, by rw [if_pos (pk_sneg (by omega) z)]; rfl⟩
  · exact ⟨1500 * m / 60 - q, by omega, by rw [pk_sub (by omega), if_neg (nI_pos (by omega))]⟩
theorem bonN_v (c : Nat) : bonN c = 0 ∨ bonN c = 1000 ∨ bonN c = 3000 ∨ bonN c = 6000 := by
  unfold bonN
  split
  · simp
  · split
    · simp
    · split <;> simp
theorem bonN_n (c : Nat) : ∃ x, x ≤ 6000 ∧ bonN c = nI x := by
  rcases bonN_v c with h | h | h | h
  · exact ⟨0, by omega, h⟩
  · exact ⟨1000, by omega, h⟩
  · exact ⟨3000, by omega, h⟩
  · exact ⟨6000, by omega, h⟩
theorem wJ.pay (h : wJ t n km mn wk po rr) (ht : t ≤ 80) (d w : Int32) : ∃ x, x ≤ 25000000 ∧ payS rr n d w = nI x := by
  obtain ⟨a, ha, e1⟩ := h.earn ht d w
  obtain ⟨b, hb, e2⟩ := h.top ht d w
  obtain ⟨c, hc, e3⟩ := bonN_n (cb (fok rr d w) n)
  refine ⟨a + b + c, by omega, ?_⟩
  unfold payS bonS
  rw [e1, e2, e3, nI_add, nI_add]
theorem wJ.payB (h : wJ t n km mn wk po rr) (ht : t ≤ 80) (d : Int32) : ∀ e, ∃ x, x ≤ 25000000 * e ∧ payB rr n d e = nI x
  | 0 => ⟨0, by omega, rfl⟩
  | e + 1 => by
    obtain ⟨x, h1, h2⟩ := wJ.payB h ht d e
    obtain ⟨y, h3, h4⟩ := h.pay ht d (nI e)
    refine ⟨x + y, by omega, ?_⟩
    have e2 : bx_sum (fun w => payS rr n d (nI w)) e = nI x := h2
    show bx_sum (fun w => payS rr n d (nI w)) e + payS rr n d (nI e) = _
    rw [e2, h4, nI_add]
/-- what riders spent -/
theorem wJ.spd (h : wJ t n km mn wk po rr) (ht : t ≤ 80) {r : Nat} (hr : r < 10) : ∃ x, x ≤ 20000000 ∧ spdS rr n r = nI x := by
  refine ⟨ns (fun k => if rfi (rr k) then cN (rr k) r - fN (rr k) r else 0) n, ?_, ?_⟩
  · refine Nat.le_trans (ns_le (b := fun k => tN (rr k)) n (fun k hk => ?_)) (h.tot ht)
    split
    · exact Nat.le_trans (Nat.sub_le _ _) (ns_one (cN (rr k)) 10 hr)
    · exact Nat.zero_le _
  · unfold spdS
    refine bx_ns n (fun k hk => ?_)
    split
    · rw [h.ch ht hk hr, (h.rf ht hk hr).1, pk_sub (h.rf ht hk hr).2]
    · rfl
def allS (rr : Nat → wr_V) (r i : Nat) : Int32 := bx_sum (fun k => if rfi (rr k) then rch (rr k) r else 0) i
theorem wJ.avs (h : wJ t n km mn wk po rr) (ht : t ≤ 80) {r : Nat} (hr : r < 10) : avsS rr n r = allS rr r n := by
  unfold avsS allS
  refine bx_congr n (fun k hk => ?_)
  cases rfi (rr k) with
  | false => simp
  | true =>
    by_cases z : 0 < rch (rr k) r
    · simp [z]
    · have h1 := h.ch ht hk hr
      have h2 := h.cle ht hk hr
      have : cN (rr k) r = 0 := by
        cases hc : cN (rr k) r with
        | zero => rfl
        | succ m => exact absurd (by rw [h1, hc]; exact nI_lt (a := 0) (Nat.succ_pos m) (by omega)) z
      rw [this] at h1
      rw [h1, if_pos rfl]
      split <;> rfl
theorem wJ.spent (h : wJ t n km mn wk po rr) {r : Nat} (hr : r < 10) : spdS rr n r = allS rr r n - bx_sum (fun k => rrf (rr k) r) n := by
  unfold spdS allS
  rw [← bx_subf]
  refine bx_congr n (fun k hk => ?_)
  cases hf : rfi (rr k) with
  | true => simp
  | false => simp [h.rf0 hk hr hf]
end PJ
