def eI : String := "java/lang/IndexOutOfBoundsException"
def eA : String := "java/lang/IllegalArgumentException"
def eS : String := "java/lang/IllegalStateException"
def px2 (C : Int32) (E : String) : Prop := (E = eI ∧ C = 1) ∨ (E = eS ∧ C = 2)
def px3 (C : Int32) (E : String) : Prop := (E = eI ∧ C = 1) ∨ (E = eA ∧ C = 2) ∨ (E = eS ∧ C = 3)
def pxIA (C : Int32) (E : String) : Prop := (E = eI ∧ C = 1) ∨ (E = eA ∧ C = 2)
def pxI (C : Int32) (E : String) : Prop := E = eI ∧ C = 1
def pxA (C : Int32) (E : String) : Prop := E = eA ∧ C = 1
def pxS (C : Int32) (E : String) : Prop := E = eS ∧ C = 1
/-- a check that lets pass -/
def wx_k (L : List Nat) (f : Nat → va_E) (r : Option Value) (P : Prop) : Option Value → List Nat → (Nat → va_E) → Prop := fun r' L' f' => r' = r ∧ L' = L ∧ f' = f ∧ P
/-- a call of the purse that answers -/
def wx_p (G : wy_G) (ox lo : Nat) (n : Nat) (km mn : Int32) (wk : Nat) (po : Nat → Int32) (rr : Nat → wr_V) (r : Option Value) (C : Int32) : Option Value → List Nat → (Nat → va_E) → Prop := fun r' L' f' => C = 0 ∧ r' = r ∧ ∃ ra ar, wx_S G L' f' ox lo ra ar n km mn wk po rr
