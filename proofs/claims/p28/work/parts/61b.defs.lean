/-! does, asks, average: what they answer, by the code of the call (0: the class answers; 1, 2, 3: it throws) -/
def de2 (C : Int32) : Int32 := if C = 1 then -30 else -10
def de3 (C : Int32) : Int32 := if C = 1 then -30 else if C = 2 then -20 else -10
def deI (C : Int32) : Int32 := -30
def deA (C : Int32) : Int32 := -20
def deS (C : Int32) : Int32 := -10
def dea (C : Int32) : Int32 := if C = 1 then -1000000030 else -1000000020
def dev (C : Int32) (V : UInt32) : UInt32 := if C = 0 then V else if C = 1 then 3253731328 else 3240099840
def wd_p (G : wy_G) (ox lo n : Nat) (km mn : Int32) (wk : Nat) (po : Nat → Int32) (rr : Nat → wr_V) (L : List Nat) (f : Nat → va_E) (V C er : Int32) : Value → List Nat → (Nat → va_E) → (Nat → va_E) → Prop := fun r L' f' _ =>
  (C = 0 ∧ r = .int V ∧ ∃ ra ar, wx_S G L' f' ox lo ra ar n km mn wk po rr) ∨ (¬ C = 0 ∧ r = .int er ∧ L' = L ∧ f' = f)
def wd_a (L : List Nat) (f : Nat → va_E) (er : Int32) : Value → List Nat → (Nat → va_E) → (Nat → va_E) → Prop := fun r L' f' _ => r = .int er ∧ L' = L ∧ f' = f
def wd_v (G : wy_G) (ox lo n : Nat) (km mn : Int32) (wk : Nat) (po : Nat → Int32) (rr : Nat → wr_V) (V : UInt32) : Value → List Nat → (Nat → va_E) → (Nat → va_E) → Prop := fun r L' f' _ => r = .float V ∧ ∃ ra ar, wx_S G L' f' ox lo ra ar n km mn wk po rr
