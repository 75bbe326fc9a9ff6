/-! floats: a whole number over a small whole number is a number -/
theorem wf_R32 (s : Bool) (num den : Nat) (e : Int) : FP.Core.encode FP.Core.b32 (FP.Core.roundRatio FP.Core.b32 s num den e) % 2147483648 ≤ 2139095040 := by
  unfold FP.Core.roundRatio
  split
  · cases s <;> decide +kernel
  · unfold FP.Core.roundAt FP.Core.quantum
    generalize FP.Core.nearest _ _ = c
    generalize hq : max FP.Core.b32.qmin _ = q
    have h1 : FP.Core.b32.qmin = -149 := by decide +kernel
    have h2 : FP.Core.b32.qmax = 104 := by decide +kernel
    have h3 : FP.Core.b32.tails = 8388608 := by decide +kernel
    have h4 : FP.Core.b32.exps = 256 := by decide +kernel
    have h5 : 2 ^ FP.Core.b32.p = 16777216 := by decide +kernel
    have hq1 : -149 ≤ q := by rw [← hq, h1]; exact Int.le_max_left _ _
    unfold FP.Core.settle
    rw [h5]
    split
    · unfold FP.Core.bound
      rw [h2]
      split
      · simp only [FP.Core.encode, FP.Core.assemble, h1, h3, h4]
        split <;> cases s <;> simp only [Bool.toNat_true, Bool.toNat_false] <;> omega
      · simp only [FP.Core.encode, FP.Core.assemble, h3, h4]
        cases s <;> simp only [Bool.toNat_true, Bool.toNat_false] <;> omega
    · unfold FP.Core.bound
      rw [h2]
      split
      · simp only [FP.Core.encode, FP.Core.assemble, h1, h3, h4]
        rw [if_neg (by omega)]
        cases s <;> simp only [Bool.toNat_true, Bool.toNat_false] <;> omega
      · simp only [FP.Core.encode, FP.Core.assemble, h3, h4]
        cases s <;> simp only [Bool.toNat_true, Bool.toNat_false] <;> omega
theorem wf_R64 (s : Bool) (num den : Nat) (e : Int) : FP.Core.encode FP.Core.b64 (FP.Core.roundRatio FP.Core.b64 s num den e) % 9223372036854775808 ≤ 9218868437227405312 := by
  unfold FP.Core.roundRatio
  split
  · cases s <;> decide +kernel
  · unfold FP.Core.roundAt FP.Core.quantum
    generalize FP.Core.nearest _ _ = c
    generalize hq : max FP.Core.b64.qmin _ = q
    have h1 : FP.Core.b64.qmin = -1074 := by decide +kernel
    have h2 : FP.Core.b64.qmax = 971 := by decide +kernel
    have h3 : FP.Core.b64.tails = 4503599627370496 := by decide +kernel
    have h4 : FP.Core.b64.exps = 2048 := by decide +kernel
    have h5 : 2 ^ FP.Core.b64.p = 9007199254740992 := by decide +kernel
    have hq1 : -1074 ≤ q := by rw [← hq, h1]; exact Int.le_max_left _ _
    unfold FP.Core.settle
    rw [h5]
    split
    · unfold FP.Core.bound
      rw [h2]
      split
      · simp only [FP.Core.encode, FP.Core.assemble, h1, h3, h4]
        split <;> cases s <;> simp only [Bool.toNat_true, Bool.toNat_false] <;> omega
      · simp only [FP.Core.encode, FP.Core.assemble, h3, h4]
        cases s <;> simp only [Bool.toNat_true, Bool.toNat_false] <;> omega
    · unfold FP.Core.bound
      rw [h2]
      split
      · simp only [FP.Core.encode, FP.Core.assemble, h1, h3, h4]
        rw [if_neg (by omega)]
        cases s <;> simp only [Bool.toNat_true, Bool.toNat_false] <;> omega
      · simp only [FP.Core.encode, FP.Core.assemble, h3, h4]
        cases s <;> simp only [Bool.toNat_true, Bool.toNat_false] <;> omega
theorem wf_i32 (s : Bool) : FP.Core.encode FP.Core.b32 (.inf s) % 2147483648 ≤ 2139095040 := by cases s <;> decide +kernel
theorem wf_i64 (s : Bool) : FP.Core.encode FP.Core.b64 (.inf s) % 9223372036854775808 ≤ 9218868437227405312 := by cases s <;> decide +kernel
theorem wf_n32 {n : Nat} (h : n % 2147483648 ≤ 2139095040) : vf_n32 (UInt32.ofNat n) := by
  unfold vf_n32
  rw [UInt32.le_iff_toNat_le, UInt32.toNat_and]
  have h1 : (0x7fffffff : UInt32).toNat = 2 ^ 31 - 1 := by decide
  have h2 : (0x7f800000 : UInt32).toNat = 2139095040 := by decide
  rw [h1, h2, Nat.and_two_pow_sub_one_eq_mod, UInt32.toNat_ofNat']
  omega
theorem wf_n64 {n : Nat} (h : n % 9223372036854775808 ≤ 9218868437227405312) : vf_n64 (UInt64.ofNat n) := by
  unfold vf_n64
  rw [UInt64.le_iff_toNat_le, UInt64.toNat_and]
  have h1 : (0x7fffffffffffffff : UInt64).toNat = 2 ^ 63 - 1 := by decide
  have h2 : (0x7ff0000000000000 : UInt64).toNat = 9218868437227405312 := by decide
  rw [h1, h2, Nat.and_two_pow_sub_one_eq_mod, UInt64.toNat_ofNat']
  omega
theorem wf_d32 {n : Nat} (h : n % 2147483648 ≤ 2139095040) : FP.Core.decode FP.Core.b32 ((UInt32.ofNat n).toNat) ≠ .nan := by
  rw [UInt32.toNat_ofNat']
  have h3 : FP.Core.b32.tails = 8388608 := by decide +kernel
  have h4 : FP.Core.b32.exps = 256 := by decide +kernel
  unfold FP.Core.decode
  simp only [FP.Core.fieldE, FP.Core.fieldT, h3, h4]
  split
  · rw [if_pos (by omega)]; exact fun z => by cases z
  · split <;> exact fun z => by cases z
theorem wf_i2f (a : Int32) : FP.Core.decode FP.Core.b32 (FP.i2f a).toNat ≠ .nan := wf_d32 (wf_R32 _ _ _ _)
def wf_nz : FP.Core.Datum → Bool
  | .fin _ d _ => !decide (d = 0)
  | _ => false
theorem wf_k : ∀ k : Fin 41, k.val ≠ 0 → wf_nz (FP.Core.decode FP.Core.b32 (FP.i2f (nI k.val)).toNat) = true := by decide +kernel
/-- the mean of c charges that sum to a -/
def mean (a : Int32) (c : Nat) : UInt32 := FP.fdiv (FP.i2f a) (FP.i2f (nI c))
theorem wf_q (a : Int32) {c : Nat} (h0 : c ≠ 0) (h : c ≤ 40) : FP.Core.div FP.Core.b32 (FP.i2f a).toNat (FP.i2f (nI c)).toNat % 2147483648 ≤ 2139095040 := by
  unfold FP.Core.div
  have h1 := wf_i2f a
  have h2 := wf_k ⟨c, by omega⟩ h0
  cases ha : FP.Core.decode FP.Core.b32 (FP.i2f a).toNat with
  | nan => exact absurd ha h1
  | inf s =>
    cases hb : FP.Core.decode FP.Core.b32 (FP.i2f (nI c)).toNat with
    | nan => rw [hb] at h2; cases h2
    | inf t => rw [hb] at h2; cases h2
    | fin t d r => exact wf_i32 _
  | fin s k q =>
    cases hb : FP.Core.decode FP.Core.b32 (FP.i2f (nI c)).toNat with
    | nan => rw [hb] at h2; cases h2
    | inf t => rw [hb] at h2; cases h2
    | fin t d r =>
      rw [hb] at h2
      simp only [wf_nz, Bool.not_eq_true', decide_eq_false_iff_not] at h2
      simp only [FP.Core.quotient]
      rw [if_neg h2]
      exact wf_R32 _ _ _ _
theorem mean_n (a : Int32) {c : Nat} (h0 : c ≠ 0) (h : c ≤ 40) : vf_n32 (mean a c) := wf_n32 (wf_q a h0 h)
theorem mean_d (a : Int32) {c : Nat} (h0 : c ≠ 0) (h : c ≤ 40) : vf_n64 (FP.f2d (mean a c)) := by
  have h1 : FP.Core.decode FP.Core.b32 (mean a c).toNat ≠ .nan := wf_d32 (wf_q a h0 h)
  have h0 : FP.Core.fIsNaN (mean a c) = false := decide_eq_false h1
  unfold FP.f2d
  rw [h0]
  refine wf_n64 ?_
  unfold FP.Core.convert
  cases ha : FP.Core.decode FP.Core.b32 (mean a c).toNat with
  | nan => exact absurd ha h1
  | inf s => exact wf_i64 _
  | fin s k q => exact wf_R64 _ _ _ _
