/-! ===== Int32 by its bits: bt x i ===== -/
def bt (x : Int32) (i : Nat) : Bool := x.toBitVec.getLsbD i
theorem b_ext {x y : Int32} (h : ∀ i, i < 32 → bt x i = bt y i) : x = y := Int32.toBitVec_inj.mp (BitVec.eq_of_getLsbD_eq (fun i hi => h i hi))
theorem b_or (x y : Int32) (i : Nat) : bt (x ||| y) i = (bt x i || bt y i) := by unfold bt; rw [Int32.toBitVec_or, BitVec.getLsbD_or]
theorem b_and (x y : Int32) (i : Nat) : bt (x &&& y) i = (bt x i && bt y i) := by unfold bt; rw [Int32.toBitVec_and, BitVec.getLsbD_and]
theorem b_xor (x y : Int32) (i : Nat) : bt (x ^^^ y) i = (bt x i ^^ bt y i) := by unfold bt; rw [Int32.toBitVec_xor, BitVec.getLsbD_xor]
theorem b_big {x : Int32} {i : Nat} (h : 32 ≤ i) : bt x i = false := BitVec.getLsbD_of_ge _ _ h
theorem b_255 (i : Nat) : bt 255 i = decide (i < 8) := by
  rcases Nat.lt_or_ge i 32 with h | h
  · exact (by decide +kernel : ∀ i, i < 32 → bt 255 i = decide (i < 8)) i h
  · rw [b_big h, decide_eq_false (by omega)]
theorem b_65535 (i : Nat) : bt 65535 i = decide (i < 16) := by
  rcases Nat.lt_or_ge i 32 with h | h
  · exact (by decide +kernel : ∀ i, i < 32 → bt 65535 i = decide (i < 16)) i h
  · rw [b_big h, decide_eq_false (by omega)]
theorem b_m1 : ∀ i, i < 32 → bt (-1) i = true := by decide +kernel
theorem b_0 (i : Nat) : bt 0 i = false := BitVec.getLsbD_zero
theorem s_l : ∀ n, n < 32 → ((nI n &&& 31).toBitVec.smod 32).toNat = n := by decide +kernel
theorem s_u : ∀ n, n < 32 → (((nI n).toUInt32 &&& Int32.toUInt32 31).toBitVec % 32).toNat = n := by decide +kernel
theorem b_shl (n : Nat) (hn : n < 32) (x : Int32) {i : Nat} (hi : i < 32) : bt (x <<< (nI n &&& 31)) i = (decide (n ≤ i) && bt x (i - n)) := by
  unfold bt
  rw [Int32.toBitVec_shiftLeft]
  show (x.toBitVec <<< ((nI n &&& 31).toBitVec.smod 32).toNat).getLsbD i = _
  rw [s_l n hn, BitVec.getLsbD_shiftLeft]
  rcases Nat.lt_or_ge i n with h | h
  · simp [h, Nat.not_le.mpr h]
  · simp [hi, h, Nat.not_lt.mpr h]
theorem b_ushr (n : Nat) (hn : n < 32) (x : Int32) (i : Nat) : bt ((x.toUInt32 >>> ((nI n).toUInt32 &&& Int32.toUInt32 31)).toInt32) i = bt x (n + i) := by
  show (x.toUInt32 >>> ((nI n).toUInt32 &&& Int32.toUInt32 31)).toBitVec.getLsbD i = x.toUInt32.toBitVec.getLsbD (n + i)
  rw [UInt32.toBitVec_shiftRight]
  show (x.toUInt32.toBitVec >>> (((nI n).toUInt32 &&& Int32.toUInt32 31).toBitVec % 32).toNat).getLsbD i = _
  rw [s_u n hn, BitVec.getLsbD_ushiftRight]
theorem b_sshr (n : Nat) (hn : n < 32) (x : Int32) {i : Nat} (hi : i < 32) : bt (x >>> (nI n &&& 31)) i = if n + i < 32 then bt x (n + i) else bt x 31 := by
  unfold bt
  rw [Int32.toBitVec_shiftRight]
  show (x.toBitVec.sshiftRight ((nI n &&& 31).toBitVec.smod 32).toNat).getLsbD i = _
  rw [s_l n hn, BitVec.getLsbD_sshiftRight, BitVec.msb_eq_getLsbD_last]
  simp [hi]
/-! ===== comparisons of small numbers ===== -/
theorem wy_ge {x y : Int32} {a b : Nat} (hx : x = nI a) (hy : y = nI b) (ha : a < 2 ^ 31) (hb : b < 2 ^ 31) : y ≤ x ↔ b ≤ a := by subst hx hy; exact nI_leI hb ha
theorem wy_le {x y : Int32} {a b : Nat} (hx : x = nI a) (hy : y = nI b) (ha : a < 2 ^ 31) (hb : b < 2 ^ 31) : x ≤ y ↔ a ≤ b := by subst hx hy; exact nI_leI ha hb
theorem wy_gt {x y : Int32} {a b : Nat} (hx : x = nI a) (hy : y = nI b) (ha : a < 2 ^ 31) (hb : b < 2 ^ 31) : y < x ↔ b < a := by subst hx hy; exact nI_ltI hb ha
theorem wy_lt {x y : Int32} {a b : Nat} (hx : x = nI a) (hy : y = nI b) (ha : a < 2 ^ 31) (hb : b < 2 ^ 31) : x < y ↔ a < b := by subst hx hy; exact nI_ltI ha hb
theorem wy_eq {x y : Int32} {a b : Nat} (hx : x = nI a) (hy : y = nI b) (ha : a < 2 ^ 31) (hb : b < 2 ^ 31) : x = y ↔ a = b := by subst hx hy; exact nI_eq ha hb
/-! ===== sets of riders as bits ===== -/
def wm (b : Nat → Bool) : Nat → Nat
  | 0 => 0
  | n + 1 => wm b n + (if b n then 2 ^ n else 0)
def cb (b : Nat → Bool) : Nat → Nat
  | 0 => 0
  | n + 1 => cb b n + (if b n then 1 else 0)
def mks (b : Nat → Bool) : Int32 := nI (wm b 10)
theorem wm_lt (b : Nat → Bool) : ∀ n, wm b n < 2 ^ n
  | 0 => Nat.one_pos
  | n + 1 => by
    have h := wm_lt b n
    have e : 2 ^ (n + 1) = 2 ^ n + 2 ^ n := by rw [Nat.pow_succ]; omega
    simp only [wm]
    split <;> omega
theorem wm_tb (b : Nat → Bool) : ∀ n i, (wm b n).testBit i = (decide (i < n) && b i)
  | 0, i => by simp [wm]
  | n + 1, i => by
    have h := wm_tb b n i
    have hl := wm_lt b n
    simp only [wm]
    cases hb : b n with
    | false =>
      simp only [Bool.false_eq_true, if_false, Nat.add_zero, h]
      rcases Nat.lt_trichotomy i n with q | q | q
      · simp [q, Nat.lt_succ_of_lt q]
      · subst q; simp [hb]
      · simp [Nat.not_lt.mpr (Nat.le_of_lt q), show ¬ i < n + 1 by omega]
    | true =>
      simp only [if_true]
      rcases Nat.lt_trichotomy i n with q | q | q
      · rw [Nat.add_comm, Nat.testBit_two_pow_add_gt q, h]
        simp [q, Nat.lt_succ_of_lt q]
      · subst q
        rw [Nat.add_comm, Nat.testBit_two_pow_add_eq, h]
        simp [hb]
      · rw [Nat.testBit_lt_two_pow (by calc wm b n + 2 ^ n < 2 ^ n + 2 ^ n := by omega
          _ = 2 ^ (n + 1) := by rw [Nat.pow_succ]; omega
          _ ≤ 2 ^ i := Nat.pow_le_pow_right (by decide) q)]
        simp [show ¬ i < n + 1 by omega]
theorem mks_bt (b : Nat → Bool) {i : Nat} (hi : i < 32) : bt (mks b) i = (decide (i < 10) && b i) := by
  have e : bt (mks b) i = (wm b 10).testBit i := by
    show (BitVec.ofNat 32 (wm b 10)).getLsbD i = _
    rw [BitVec.getLsbD_ofNat, decide_eq_true hi, Bool.true_and]
  rw [e, wm_tb]
theorem mks_0 : mks (fun _ => false) = 0 := by decide +kernel
theorem bt_1 : ∀ i, i < 32 → bt 1 i = decide (i = 0) := by decide +kernel
theorem mks_or (b : Nat → Bool) {k : Nat} (hk : k < 10) : mks b ||| (1 <<< (nI k &&& 31)) = mks (va_up b k true) := by
  apply b_ext
  intro i hi
  rw [b_or, mks_bt b hi, mks_bt _ hi, b_shl k (by omega) 1 hi]
  by_cases h : i = k
  · subst h
    rw [va_up_self, Nat.sub_self, bt_1 0 (by omega)]
    simp [hk]
  · rw [va_up_ne _ _ h]
    by_cases h2 : k ≤ i
    · rw [bt_1 (i - k) (by omega)]
      simp [h2, show ¬ i - k = 0 by omega]
    · simp [h2]
theorem mks_andn (b : Nat → Bool) {k : Nat} (hk : k < 10) : mks b &&& ((1 <<< (nI k &&& 31)) ^^^ (-1)) = mks (va_up b k false) := by
  apply b_ext
  intro i hi
  rw [b_and, b_xor, mks_bt b hi, mks_bt _ hi, b_shl k (by omega) 1 hi, b_m1 i hi]
  by_cases h : i = k
  · subst h
    rw [va_up_self, Nat.sub_self, bt_1 0 (by omega)]
    simp
  · rw [va_up_ne _ _ h]
    by_cases h2 : k ≤ i
    · rw [bt_1 (i - k) (by omega)]
      simp [h2, show ¬ i - k = 0 by omega]
    · simp [h2]
theorem mks_andnot (a b : Nat → Bool) : mks a &&& (mks b ^^^ (-1)) = mks (fun k => a k && !b k) := by
  apply b_ext
  intro i hi
  rw [b_and, b_xor, mks_bt a hi, mks_bt b hi, mks_bt _ hi, b_m1 i hi]
  by_cases h : i < 10 <;> simp [h]
/-- holds: the bit of a rider -/
theorem mks_holds (b : Nat → Bool) {k : Nat} (hk : k < 10) : ((mks b >>> (nI k &&& 31)) &&& 1 = 0) ↔ b k = false := by
  have key : ∀ i, i < 32 → bt ((mks b >>> (nI k &&& 31)) &&& 1) i = (decide (i = 0) && b k) := by
    intro i hi
    rw [b_and, bt_1 i hi, b_sshr k (by omega) _ hi]
    by_cases h : i = 0
    · subst h
      rw [if_pos (by omega), Nat.add_zero, mks_bt b (by omega)]
      simp [hk]
    · simp [h]
  constructor
  · intro h
    have h1 := key 0 (by omega)
    rw [h, b_0] at h1
    simpa using h1.symm
  · intro h
    apply b_ext
    intro i hi
    rw [key i hi, b_0, h, Bool.and_false]
/-- bitCount's own arithmetic -/
def bc1 (x : Int32) : Int32 := x - ((x.toUInt32 >>> ((1 : Int32).toUInt32 &&& Int32.toUInt32 31)).toInt32 &&& 1431655765)
def bc2 (x : Int32) : Int32 := (x &&& 858993459) + ((x.toUInt32 >>> ((2 : Int32).toUInt32 &&& Int32.toUInt32 31)).toInt32 &&& 858993459)
def bc3 (x : Int32) : Int32 := (x + (x.toUInt32 >>> ((4 : Int32).toUInt32 &&& Int32.toUInt32 31)).toInt32) &&& 252645135
def bc4 (x : Int32) : Int32 := x + (x.toUInt32 >>> ((8 : Int32).toUInt32 &&& Int32.toUInt32 31)).toInt32
def bc5 (x : Int32) : Int32 := x + (x.toUInt32 >>> ((16 : Int32).toUInt32 &&& Int32.toUInt32 31)).toInt32
def bcf (x : Int32) : Int32 := bc5 (bc4 (bc3 (bc2 (bc1 x)))) &&& 63
def pcn (n : Nat) : Nat := cb (fun k => n.testBit k) 10
theorem bcf_all : ∀ n : Fin 1024, bcf (nI n.val) = nI (pcn n.val) := by decide +kernel
theorem cb_congr {a b : Nat → Bool} : ∀ n, (∀ k, k < n → a k = b k) → cb a n = cb b n
  | 0, _ => rfl
  | n + 1, h => by
    simp only [cb]
    rw [cb_congr n (fun k hk => h k (by omega)), h n (by omega)]
theorem cb_le (b : Nat → Bool) : ∀ n, cb b n ≤ n
  | 0 => Nat.le_refl _
  | n + 1 => by
    have := cb_le b n
    simp only [cb]
    split <;> omega
theorem bcf_mks (b : Nat → Bool) : bcf (mks b) = nI (cb b 10) := by
  have h := bcf_all ⟨wm b 10, wm_lt b 10⟩
  refine h.trans ?_
  show nI (cb (fun k => (wm b 10).testBit k) 10) = _
  exact congrArg nI (cb_congr (a := fun k => (wm b 10).testBit k) (b := b) 10 (fun k hk => by simp [wm_tb, hk]))
