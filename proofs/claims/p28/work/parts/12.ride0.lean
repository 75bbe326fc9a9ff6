/-! A RIDE: what its three cells hold, as one value -/
abbrev wr_V : Type := Int32 × Int32 × Int32 × Bool × (Nat → Bool) × (Nat → Bool) × (Nat → Bool) × (Nat → Bool) × (Nat → Bool) × (Nat → Int32) × (Nat → Int32)
def rdv (v : wr_V) : Int32 := v.1
def rwk (v : wr_V) : Int32 := v.2.1
def rmi (v : wr_V) : Int32 := v.2.2.1
def rfi (v : wr_V) : Bool := v.2.2.2.1
def rbk (v : wr_V) : Nat → Bool := v.2.2.2.2.1
def rsd (v : wr_V) : Nat → Bool := v.2.2.2.2.2.1
def rdp (v : wr_V) : Nat → Bool := v.2.2.2.2.2.2.1
def rse (v : wr_V) : Nat → Bool := v.2.2.2.2.2.2.2.1
def rfa (v : wr_V) : Nat → Bool := v.2.2.2.2.2.2.2.2.1
def rch (v : wr_V) : Nat → Int32 := v.2.2.2.2.2.2.2.2.2.1
def rrf (v : wr_V) : Nat → Int32 := v.2.2.2.2.2.2.2.2.2.2
abbrev wr_fs (v : wr_V) (c d : Nat) : List Value := [.int (rdv v), .int (rwk v), .ref c, .ref d, .int (rmi v), .int (bI (rfi v)), .int (mks (rbk v)), .int (mks (rsd v)), .int (mks (rdp v)), .int (mks (rse v)), .int (mks (rfa v))]
def wr_o (G : wy_G) (L : List Nat) (f : Nat → va_E) (h c d : Nat) (v : wr_V) : Prop := wy_c L f h (.inr (1, wr_fs v c d)) ∧ wy_c L f c (.inl (G.2 0, 10, .inl (rch v))) ∧ wy_c L f d (.inl (G.2 0, 10, .inl (rrf v))) ∧ h ≠ c ∧ h ≠ d ∧ c ≠ d
theorem wr_o.kept {G : wy_G} {L L' : List Nat} {f f' : Nat → va_E} {h c d : Nat} {v : wr_V} (H : wr_o G L f h c d v) (hL : ∀ a, a ∈ L → a ∈ L') (h1 : f' h = f h) (h2 : f' c = f c) (h3 : f' d = f d) : wr_o G L' f' h c d v := ⟨⟨hL _ H.1.1, h1.trans H.1.2⟩, ⟨hL _ H.2.1.1, h2.trans H.2.1.2⟩, ⟨hL _ H.2.2.1.1, h3.trans H.2.2.1.2⟩, H.2.2.2⟩
/-- somebody was charged -/
def anyc (g : Nat → Int32) : Nat → Bool
  | 0 => false
  | n + 1 => anyc g n || decide (0 < g n)
/-- everybody who was charged has all back by the driver's fault -/
def allv (v : wr_V) : Nat → Bool
  | 0 => true
  | n + 1 => allv v n && (!decide (0 < rch v n) || (rfa v n && decide (rrf v n = rch v n)))
theorem allv_false (v : wr_V) {i : Nat} (h : allv v (i + 1) = false) : ∀ n, i + 1 ≤ n → allv v n = false
  | 0, hn => absurd hn (by omega)
  | n + 1, hn => by
    by_cases e : i = n
    · subst e; exact h
    · have := allv_false v h n (by omega)
      simp only [allv, this, Bool.false_and]
def voidR (v : wr_V) : Bool := rfi v && (anyc (rch v) 10 && allv v 10)
/-- what the driver gets for a rider -/
def fdr (v : wr_V) (k : Nat) : Int32 := (if rfa v k then rch v k - rrf v k else rch v k) - (if rfa v k then rch v k - rrf v k else rch v k) / 5
def fbyR (v : wr_V) (p q : Int32) : Bool := rfi v && (decide (rdv v = p) && decide (rwk v = q))
def freeR (v : wr_V) : Int32 := 4 - nI (cb (rbk v) 10) - nI (cb (rsd v) 10)
/-- a stretch: the charges behind the first i riders -/
def stch (sd : Nat → Bool) (ch : Nat → Int32) (sh lf : Int32) (i : Nat) : Nat → Int32 := fun j => if j < i ∧ sd j = true then ch j + (if 0 < lf - nI (cb sd j) then sh + 1 else sh) else ch j
theorem stch_0 (sd : Nat → Bool) (ch : Nat → Int32) (sh lf : Int32) : stch sd ch sh lf 0 = ch := by
  funext j; simp [stch]
theorem stch_self (sd : Nat → Bool) (ch : Nat → Int32) (sh lf : Int32) (i : Nat) : stch sd ch sh lf i i = ch i := by simp [stch]
theorem stch_t (sd : Nat → Bool) (ch : Nat → Int32) (sh lf : Int32) (i : Nat) {z : Int32} (h : sd i = true) (hz : z = ch i + (if 0 < lf - nI (cb sd i) then sh + 1 else sh)) : upd (stch sd ch sh lf i) i z = stch sd ch sh lf (i + 1) := by
  funext j
  by_cases e : j = i
  · subst e; simp [upd, stch, h, hz]
  · have : (j < i + 1) = (j < i) := propext ⟨fun q => by omega, fun q => by omega⟩
    simp [upd, stch, e, this]
theorem stch_f (sd : Nat → Bool) (ch : Nat → Int32) (sh lf : Int32) (i : Nat) (h : sd i = false) : stch sd ch sh lf i = stch sd ch sh lf (i + 1) := by
  funext j
  by_cases e : j = i
  · subst e; simp [stch, h]
  · have : (j < i + 1) = (j < i) := propext ⟨fun q => by omega, fun q => by omega⟩
    simp [stch, this]
theorem wy_subadd (a b c : Int32) : a - b - c = a - (b + c) := by
  rw [Int32.sub_eq_add_neg, Int32.sub_eq_add_neg, Int32.sub_eq_add_neg a (b + c), Int32.neg_add, Int32.sub_eq_add_neg (-b) c, Int32.add_assoc]
theorem cb_dec (sd : Nat → Bool) (lf : Int32) (i : Nat) (h : sd i = true) : lf - nI (cb sd i) + (-1) = lf - nI (cb sd (i + 1)) := by
  simp only [cb, h, if_true]
  generalize cb sd i = c
  rw [← nI_1, ← wy_subadd, Int32.sub_eq_add_neg (lf - nI c) 1]
def stchg (sd : Nat → Bool) (ch : Nat → Int32) (cost : Int32) : Nat → Int32 := if cb sd 10 = 0 then ch else stch sd ch (cost / nI (cb sd 10)) (cost - cost / nI (cb sd 10) * nI (cb sd 10)) 10
/-- the end: those who booked and did not come -/
def endc (bk : Nat → Bool) (ch : Nat → Int32) (i : Nat) : Nat → Int32 := fun j => if j < i ∧ bk j = true then ch j + 400 else ch j
theorem endc_0 (bk : Nat → Bool) (ch : Nat → Int32) : endc bk ch 0 = ch := by funext j; simp [endc]
theorem endc_self (bk : Nat → Bool) (ch : Nat → Int32) (i : Nat) : endc bk ch i i = ch i := by simp [endc]
theorem endc_t (bk : Nat → Bool) (ch : Nat → Int32) (i : Nat) {z : Int32} (h : bk i = true) (hz : z = ch i + 400) : upd (endc bk ch i) i z = endc bk ch (i + 1) := by
  funext j
  by_cases e : j = i
  · subst e; simp [upd, endc, h, hz]
  · have : (j < i + 1) = (j < i) := propext ⟨fun q => by omega, fun q => by omega⟩
    simp [upd, endc, e, this]
theorem endc_f (bk : Nat → Bool) (ch : Nat → Int32) (i : Nat) (h : bk i = false) : endc bk ch i = endc bk ch (i + 1) := by
  funext j
  by_cases e : j = i
  · subst e; simp [endc, h]
  · have : (j < i + 1) = (j < i) := propext ⟨fun q => by omega, fun q => by omega⟩
    simp [endc, this]
def feeR (v : wr_V) : Int32 := if rmi v = 0 then 0 else 250
def rfv (v : wr_V) (k : Nat) (pc : Int32) : Int32 := ((rch v k).toInt64 * pc.toInt64 / 100).toInt32
/-- what each method that writes makes of a ride -/
def vBook (v : wr_V) (k : Nat) : wr_V := (rdv v, rwk v, rmi v, rfi v, va_up (rbk v) k true, rsd v, rdp v, rse v, rfa v, rch v, rrf v)
def vDrop (v : wr_V) (k : Nat) : wr_V := (rdv v, rwk v, rmi v, rfi v, va_up (rbk v) k false, rsd v, rdp v, rse v, rfa v, upd (rch v) k (rch v k + feeR v), rrf v)
def vTake (v : wr_V) (k : Nat) : wr_V := (rdv v, rwk v, rmi v, rfi v, va_up (rbk v) k false, va_up (rsd v) k true, rdp v, rse v, rfa v, rch v, rrf v)
def vOut (v : wr_V) (k : Nat) : wr_V := (rdv v, rwk v, rmi v, rfi v, rbk v, va_up (rsd v) k false, rdp v, rse v, rfa v, rch v, rrf v)
def vStr (v : wr_V) (cost mi : Int32) : wr_V := (rdv v, rwk v, rmi v + mi, rfi v, rbk v, rsd v, rdp v, rse v, rfa v, stchg (rsd v) (rch v) cost, rrf v)
def vEnd (v : wr_V) : wr_V := (rdv v, rwk v, rmi v, true, rbk v, fun _ => false, rdp v, rse v, rfa v, endc (rbk v) (rch v) 10, rrf v)
def vDis (v : wr_V) (k : Nat) : wr_V := (rdv v, rwk v, rmi v, rfi v, rbk v, rsd v, va_up (rdp v) k true, rse v, rfa v, rch v, rrf v)
def vRef (v : wr_V) (k : Nat) (pc : Int32) (b : Bool) : wr_V := (rdv v, rwk v, rmi v, rfi v, rbk v, rsd v, rdp v, va_up (rse v) k true, (if b then va_up (rfa v) k true else rfa v), rch v, upd (rrf v) k (rfv v k pc))
def vNew (dr wk : Int32) : wr_V := (dr, wk, 0, false, fun _ => false, fun _ => false, fun _ => false, fun _ => false, fun _ => false, fun _ => 0, fun _ => 0)
/-- what a method says that writes a ride alone -/
def wr_p (G : wy_G) (L : List Nat) (f : Nat → va_E) (h c d : Nat) (v' : wr_V) (r : Option Value) : Option Value → List Nat → (Nat → va_E) → Prop := fun r' L' f' => r' = r ∧ L' = L ∧ wr_o G L f' h c d v' ∧ ∀ z, z ≠ h → z ≠ c → z ≠ d → f' z = f z
