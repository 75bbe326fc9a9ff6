theorem wm_s0 {b : Nat → Bool} {i : Nat} (h : b i = false) : nI (wm b (i + 1)) = nI (wm b i) := by simp [wm, h]
theorem wm_bt (b : Nat → Bool) (n : Nat) {i : Nat} (hi : i < 32) : bt (nI (wm b n)) i = (decide (i < n) && b i) := by
  have e : bt (nI (wm b n)) i = (wm b n).testBit i := by
    show (BitVec.ofNat 32 (wm b n)).getLsbD i = _
    rw [BitVec.getLsbD_ofNat, decide_eq_true hi, Bool.true_and]
  rw [e, wm_tb]
theorem wm_s1 {b : Nat → Bool} {i : Nat} (hi : i < 10) (h : b i = true) : nI (wm b (i + 1)) = nI (wm b i) ||| (1 <<< (nI i &&& 31)) := by
  apply b_ext
  intro j hj
  rw [b_or, wm_bt _ _ hj, wm_bt _ _ hj, b_shl i (by omega) 1 hj]
  by_cases e : j = i
  · subst e; rw [Nat.sub_self, bt_1 0 (by omega)]; simp [h]
  · by_cases h2 : i ≤ j
    · rw [bt_1 (j - i) (by omega)]
      simp [show ¬ j - i = 0 by omega, show ¬ j < i by omega, show ¬ j < i + 1 by omega]
    · simp [h2, show j < i by omega, show j < i + 1 by omega]
theorem wm_congr {a b : Nat → Bool} : ∀ n, (∀ k, k < n → a k = b k) → wm a n = wm b n
  | 0, _ => rfl
  | n + 1, h => by
    simp only [wm]
    rw [wm_congr n (fun k hk => h k (by omega)), h n (by omega)]
theorem wm_ab {t : Nat} {v : wr_V} (hi : wi t v) : wm (fun r => decide (stN v r = 2)) 10 = wm (rsd v) 10 := wm_congr 10 (fun r hr => by
  cases hf : rfi v with
  | true => simp [stN, hf, hi.2.1 hf r hr]
  | false =>
    cases h : rsd v r with
    | true => simp [(stN2 hi hr hf).mpr h]
    | false =>
      have : ¬ stN v r = 2 := fun z => absurd ((stN2 hi hr hf).mp z) (by rw [h]; decide)
      simp [this])
theorem cb_add (b : Nat → Bool) (n : Nat) : ∀ m, cb b (n + m) = cb b n + cb (fun k => b (n + k)) m
  | 0 => rfl
  | m + 1 => by
    show cb b (n + m) + (if b (n + m) then 1 else 0) = _
    rw [cb_add b n m, Nat.add_assoc]; rfl
theorem opd_flat (rr : Nat → wr_V) : ∀ n, nI (cb (fun i => decide (dpN (rr (i / 10)) (i % 10) = 1)) (10 * n)) = opdS rr n
  | 0 => rfl
  | n + 1 => by
    rw [show 10 * (n + 1) = 10 * n + 10 by omega, cb_add, ← nI_add, opd_flat rr n]
    show _ = opdS rr n + nI (cb (fun r => rdp (rr n) r && !rse (rr n) r) 10)
    rw [cb_congr (b := fun r => rdp (rr n) r && !rse (rr n) r) 10 (fun r hr => by
      rw [show (10 * n + r) / 10 = n by omega, show (10 * n + r) % 10 = r by omega]
      unfold dpN
      cases rdp (rr n) r <;> cases rse (rr n) r <;> cases rfa (rr n) r <;> rfl)]
theorem bx_addf (a b : Nat → Int32) : ∀ n, bx_sum (fun k => a k + b k) n = bx_sum a n + bx_sum b n
  | 0 => rfl
  | n + 1 => by
    simp only [bx_sum]
    rw [bx_addf a b n, Int32.add_assoc, Int32.add_assoc, ← Int32.add_assoc (a n), Int32.add_comm (a n) (bx_sum b n), Int32.add_assoc]
theorem bx_subf (a b : Nat → Int32) : ∀ n, bx_sum (fun k => a k - b k) n = bx_sum a n - bx_sum b n
  | 0 => (Int32.sub_self 0).symm
  | n + 1 => by
    simp only [bx_sum]
    rw [bx_subf a b n, ← wy_subadd, Int32.sub_eq_add_neg, Int32.sub_eq_add_neg, Int32.sub_eq_add_neg, Int32.sub_eq_add_neg, Int32.add_assoc, Int32.add_assoc, Int32.add_assoc, ← Int32.add_assoc (-bx_sum b n), Int32.add_comm (-bx_sum b n) (a n), Int32.add_assoc]
theorem bx_swap (F : Nat → Nat → Int32) (m : Nat) : ∀ n, bx_sum (fun r => bx_sum (fun k => F k r) m) n = bx_sum (fun k => bx_sum (fun r => F k r) n) m
  | 0 => (bx_0 m).symm
  | n + 1 => by
    show bx_sum (fun r => bx_sum (fun k => F k r) m) n + bx_sum (fun k => F k n) m = bx_sum (fun k => bx_sum (fun r => F k r) n + F k n) m
    rw [bx_swap F m n, bx_addf]
theorem spd_hrd (rr : Nat → wr_V) (n : Nat) : bx_sum (spdS rr n) 10 = hrdS rr n := by
  show bx_sum (fun r => bx_sum (fun k => if rfi (rr k) then rch (rr k) r - rrf (rr k) r else 0) n) 10 = _
  rw [bx_swap (fun k r => if rfi (rr k) then rch (rr k) r - rrf (rr k) r else 0)]
  refine bx_congr n (fun k hk => ?_)
  cases rfi (rr k) with
  | true => exact bx_subf _ _ 10
  | false => exact bx_0 10
section WYZ
variable {p : Program} {l : Launch} {e : Env} {R : Room} {s : State} {m : MethodId} {args : Array Value} {below : List Frame} {meth : Method} {c : Code} {H : Heap} {locs : List Loc} {cells slots : Nat} {Q : State → Prop}
variable {cc : ByteArray} {pc : Nat} {ls : Array Slot} {rest st0 : List Value} {A : Nat → Prop} {a : Nat} {H0 : Heap} {G : wy_G} {L : List Nat} {f : Nat → va_E}
end WYZ
theorem rng_nat {p a b : Int32} {x y : Nat} (h : rngB p a b = true) (ha : a = nI x) (hb : b = nI y) (hy : y < 2 ^ 31) (hxy : x ≤ y) : ∃ m, x ≤ m ∧ m ≤ y ∧ p = nI m := by
  subst ha hb
  simp only [rngB, Bool.and_eq_true, decide_eq_true_eq] at h
  have h0 : ¬ p < 0 := Int32.not_lt.mpr (Int32.le_trans (nI_pos' (show x < 2 ^ 31 by omega)) h.1)
  obtain ⟨j, hj, rfl⟩ := nI_of h0
  exact ⟨j, (nI_leI (by omega) hj).mp h.1, (nI_leI hj hy).mp h.2, rfl⟩
