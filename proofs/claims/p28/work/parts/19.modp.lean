/-! WHAT EACH WRITING DOES: the invariants, and the reference's rows -/
theorem cb_same {a b : Nat → Bool} (n : Nat) (h : ∀ k, a k = b k) : cb a n = cb b n := cb_congr n (fun k _ => h k)
theorem cb_set (b : Nat → Bool) {k : Nat} (x : Bool) : ∀ n, cb (va_up b k x) n + (if k < n then (if b k then 1 else 0) else 0) = cb b n + (if k < n then (if x then 1 else 0) else 0)
  | 0 => rfl
  | n + 1 => by
    have h := cb_set b (k := k) x n
    simp only [cb]
    rcases Nat.lt_trichotomy k n with q | q | q
    · rw [va_up_ne _ _ (show n ≠ k by omega)]
      simp only [if_pos q, if_pos (show k < n + 1 by omega)] at h ⊢
      omega
    · subst q
      rw [va_up_self]
      simp only [Nat.lt_irrefl, if_false] at h
      simp only [if_pos (Nat.lt_succ_self k)]
      omega
    · rw [va_up_ne _ _ (show n ≠ k by omega)]
      simp only [if_neg (show ¬ k < n by omega), if_neg (show ¬ k < n + 1 by omega)] at h ⊢
      omega
theorem freeN {t : Nat} {v : wr_V} (h : wi t v) : freeR v = nI (4 - cb (rbk v) 10 - cb (rsd v) 10) := by
  have h3 := h.2.2.1
  show nI 4 - nI (cb (rbk v) 10) - nI (cb (rsd v) 10) = _
  rw [pk_sub (show cb (rbk v) 10 ≤ 4 by omega), pk_sub (show cb (rsd v) 10 ≤ 4 - cb (rbk v) 10 by omega)]
theorem free0 {t : Nat} {v : wr_V} (h : wi t v) : freeR v ≤ 0 ↔ freeR v = 0 := by
  rw [freeN h]
  constructor
  · intro q
    have : 4 - cb (rbk v) 10 - cb (rsd v) 10 ≤ 0 := (nI_leI (by omega) (by decide)).mp q
    rw [Nat.le_zero.mp this]; rfl
  · intro q; rw [q]; decide
theorem free1 {t : Nat} {v : wr_V} (h : wi t v) (q : ¬ freeR v ≤ 0) : cb (rbk v) 10 + cb (rsd v) 10 < 4 := by
  rw [freeN h] at q
  apply Nat.lt_of_not_le
  intro z
  exact q (by rw [show 4 - cb (rbk v) 10 - cb (rsd v) 10 = 0 by omega]; decide)
theorem wi_up {t : Nat} {v : wr_V} (h : wi t v) : wi (t + 1) v := by
  obtain ⟨a1, a2, a3, a4, a5, ⟨m, b1, b2⟩, a7⟩ := h
  exact ⟨a1, a2, a3, a4, a5, ⟨m, by omega, b2⟩, fun r hr => by obtain ⟨c, c1, c2⟩ := a7 r hr; exact ⟨c, by omega, c2⟩⟩
theorem wi_book {t : Nat} {v : wr_V} {r : Nat} (h : wi t v) (hr : r < 10) (hf : rfi v = false) (hs : rsd v r = false) (hq : ¬ freeR v ≤ 0) : wi (t + 1) (vBook v r) := by
  have h1 := free1 h hq
  obtain ⟨a1, a2, a3, a4, a5, a6, a7⟩ := wi_up h
  refine ⟨fun j hj hb => ?_, fun z => absurd (hf.symm.trans z) (by decide), ?_, a4, a5, a6, a7⟩
  · by_cases e : j = r
    · subst e; exact hs
    · exact a1 j hj (by rw [← hb]; exact (va_up_ne _ _ e).symm)
  · have := cb_set (rbk v) (k := r) true 10
    simp only [if_pos hr, if_true] at this
    show cb (va_up (rbk v) r true) 10 + cb (rsd v) 10 ≤ 4
    omega
theorem wi_drop {t : Nat} {v : wr_V} {r : Nat} (h : wi t v) (hr : r < 10) : wi (t + 1) (vDrop v r) := by
  obtain ⟨a1, a2, a3, a4, a5, a6, a7⟩ := h
  refine ⟨fun j hj hb => ?_, a2, ?_, a4, a5, ?_, fun j hj => ?_⟩
  · by_cases e : j = r
    · subst e; exact absurd hb (by show ¬ va_up (rbk v) j false j = true; rw [va_up_self]; decide)
    · exact a1 j hj (by rw [← hb]; exact (va_up_ne _ _ e).symm)
  · have := cb_set (rbk v) (k := r) false 10
    simp only [if_pos hr, Bool.false_eq_true, if_false] at this
    show cb (va_up (rbk v) r false) 10 + cb (rsd v) 10 ≤ 4
    omega
  · obtain ⟨m, b1, b2⟩ := a6; exact ⟨m, by omega, b2⟩
  · obtain ⟨c, c1, c2⟩ := a7 j hj
    show ∃ c, c ≤ 220001 * (t + 1) ∧ upd (rch v) r (rch v r + feeR v) j = nI c
    by_cases e : j = r
    · subst e
      simp only [upd, if_true, c2, feeR]
      split
      · exact ⟨c, by omega, by rw [Int32.add_zero]⟩
      · exact ⟨c + 250, by omega, by rw [← nI_add]; rfl⟩
    · simp only [upd, if_neg e]; exact ⟨c, by omega, c2⟩
theorem wi_take {t : Nat} {v : wr_V} {r : Nat} (h : wi t v) (hr : r < 10) (hf : rfi v = false) (hs : rsd v r = false) (hq : rbk v r = true ∨ ¬ freeR v ≤ 0) : wi (t + 1) (vTake v r) := by
  have h1 : rbk v r = true ∨ cb (rbk v) 10 + cb (rsd v) 10 < 4 := hq.imp id (free1 h)
  obtain ⟨a1, a2, a3, a4, a5, a6, a7⟩ := wi_up h
  refine ⟨fun j hj hb => ?_, fun z => absurd (hf.symm.trans z) (by decide), ?_, a4, a5, a6, a7⟩
  · by_cases e : j = r
    · subst e; exact absurd hb (by show ¬ va_up (rbk v) j false j = true; rw [va_up_self]; decide)
    · show va_up (rsd v) r true j = false
      rw [va_up_ne _ _ e]
      exact a1 j hj (by rw [← hb]; exact (va_up_ne _ _ e).symm)
  · have q1 := cb_set (rbk v) (k := r) false 10
    have q2 := cb_set (rsd v) (k := r) true 10
    simp only [if_pos hr, Bool.false_eq_true, if_false, if_true, hs] at q1 q2
    show cb (va_up (rbk v) r false) 10 + cb (va_up (rsd v) r true) 10 ≤ 4
    rcases h1 with h1 | h1
    · simp only [h1, if_true] at q1; omega
    · omega
theorem wi_out {t : Nat} {v : wr_V} {r : Nat} (h : wi t v) (hr : r < 10) : wi (t + 1) (vOut v r) := by
  obtain ⟨a1, a2, a3, a4, a5, a6, a7⟩ := wi_up h
  have key : ∀ j, rsd v j = false → va_up (rsd v) r false j = false := fun j hj => by
    by_cases e : j = r
    · subst e; rw [va_up_self]
    · rw [va_up_ne _ _ e]; exact hj
  refine ⟨fun j hj hb => key j (a1 j hj hb), fun z j hj => key j (a2 z j hj), ?_, a4, a5, a6, a7⟩
  have := cb_set (rsd v) (k := r) false 10
  simp only [if_pos hr, Bool.false_eq_true, if_false] at this
  show cb (rbk v) 10 + cb (va_up (rsd v) r false) 10 ≤ 4
  omega
theorem wi_str {t : Nat} {v : wr_V} {C m : Nat} (h : wi t v) (ht : t ≤ 512) (hC : C ≤ 220000) (hm : m ≤ 120) : wi (t + 1) (vStr v (nI C) (nI m)) := by
  obtain ⟨a1, a2, a3, a4, a5, ⟨q, b1, b2⟩, a7⟩ := h
  refine ⟨a1, a2, a3, a4, a5, ⟨q + m, by omega, ?_⟩, fun j hj => ?_⟩
  · show rmi v + nI m = _
    rw [b2, nI_add]
  · obtain ⟨c, c1, c2⟩ := a7 j hj
    show ∃ c, c ≤ 220001 * (t + 1) ∧ stchg (rsd v) (rch v) (nI C) j = nI c
    unfold stchg
    split
    · exact ⟨c, by omega, c2⟩
    · next hn =>
      have hle := cb_le (rsd v) 10
      rw [pk_div (show C < 2 ^ 31 by omega) (Nat.pos_of_ne_zero hn) (by omega)]
      have hd : C / cb (rsd v) 10 ≤ C := Nat.div_le_self _ _
      simp only [stch, c2]
      split
      · split
        · exact ⟨c + (C / cb (rsd v) 10 + 1), by omega, by rw [nI_1, nI_add]⟩
        · exact ⟨c + C / cb (rsd v) 10, by omega, by rw [nI_add]⟩
      · exact ⟨c, by omega, rfl⟩
theorem cb_ff : cb (fun _ => false) 10 = 0 := rfl
theorem wi_end {t : Nat} {v : wr_V} (h : wi t v) : wi (t + 1) (vEnd v) := by
  obtain ⟨a1, a2, a3, a4, a5, a6, a7⟩ := wi_up h
  refine ⟨fun j hj hb => rfl, fun _ _ _ => rfl, ?_, a4, a5, a6, fun j hj => ?_⟩
  · show cb (rbk v) 10 + cb (fun _ => false) 10 ≤ 4
    rw [cb_ff]; omega
  · obtain ⟨c, c1, c2⟩ := h.2.2.2.2.2.2 j hj
    show ∃ c, c ≤ 220001 * (t + 1) ∧ endc (rbk v) (rch v) 10 j = nI c
    simp only [endc, c2]
    split
    · exact ⟨c + 400, by omega, by rw [← nI_add]; rfl⟩
    · exact ⟨c, by omega, rfl⟩
theorem wi_dis {t : Nat} {v : wr_V} {r : Nat} (h : wi t v) : wi (t + 1) (vDis v r) := by
  obtain ⟨a1, a2, a3, a4, a5, a6, a7⟩ := wi_up h
  refine ⟨a1, a2, a3, a4, fun j hj hb => ?_, a6, a7⟩
  show va_up (rdp v) r true j = true
  by_cases e : j = r
  · subst e; rw [va_up_self]
  · rw [va_up_ne _ _ e]; exact a5 j hj hb
theorem wi_ref {t : Nat} {v : wr_V} {r : Nat} {pc : Int32} {b : Bool} (h : wi t v) (hd : rdp v r = true) : wi (t + 1) (vRef v r pc b) := by
  obtain ⟨a1, a2, a3, a4, a5, a6, a7⟩ := wi_up h
  refine ⟨a1, a2, a3, fun j hj hb => ?_, fun j hj hb => ?_, a6, a7⟩
  · show va_up (rse v) r true j = true
    by_cases e : j = r
    · subst e; rw [va_up_self]
    · rw [va_up_ne _ _ e]
      refine a4 j hj ?_
      rw [← hb]
      show rfa v j = (if b then va_up (rfa v) r true else rfa v) j
      cases b with
      | true => exact (va_up_ne _ _ e).symm
      | false => rfl
  · have hb : va_up (rse v) r true j = true := hb
    by_cases e : j = r
    · subst e; exact hd
    · rw [va_up_ne _ _ e] at hb; exact a5 j hj hb
theorem wi_new (t : Nat) (d w : Int32) : wi t (vNew d w) := ⟨fun _ _ h => (nomatch h), fun h => (nomatch h), (by show cb (fun _ => false) 10 + cb (fun _ => false) 10 ≤ 4; rw [cb_ff]; omega), fun _ _ h => (nomatch h), fun _ _ h => (nomatch h), ⟨0, by omega, rfl⟩, fun _ _ => ⟨0, by omega, rfl⟩⟩
/-! the reference's rows behind a writing -/
theorem upd_o (g : Nat → Int32) {k j r r' : Nat} {x : Int32} (hj : j ≠ k) (hr : r < 10) (hr' : r' < 10) : upd g (10 * k + r) x (10 * j + r') = g (10 * j + r') := by
  simp only [upd]; rw [if_neg (by omega)]
theorem upd_s (g : Nat → Int32) {k r r' : Nat} {x : Int32} (h : r' ≠ r) : upd g (10 * k + r) x (10 * k + r') = g (10 * k + r') := by
  simp only [upd]; rw [if_neg (by omega)]
theorem upd_h (g : Nat → Int32) {k : Nat} {x : Int32} : upd g k x k = x := by simp only [upd, if_true]
theorem upd_d (g : Nat → Int32) {k j : Nat} {x : Int32} (h : j ≠ k) : upd g k x j = g j := by simp only [upd, if_neg h]
theorem wm_up {po : Nat → Int32} {rr : Nat → wr_V} {g0 g1 g2 g3 g4 g5 g6 g7 g8 g9 h0 h1 h2 h3 h4 h5 h6 h7 h8 : Nat → Int32} {k : Nat} {v : wr_V} (hm : wm_r po rr g0 g1 g2 g3 g4 g5 g6 g7 g8 g9) (ho : ∀ j, j < 40 → j ≠ k → wm_k j (rr j) g0 g1 g2 g3 g4 g5 g6 g7 g8 → wm_k j (rr j) h0 h1 h2 h3 h4 h5 h6 h7 h8) (hk : wm_k k v h0 h1 h2 h3 h4 h5 h6 h7 h8) : wm_r po (va_up rr k v) h0 h1 h2 h3 h4 h5 h6 h7 h8 g9 := by
  refine ⟨fun j hj => ?_, hm.2⟩
  by_cases e : j = k
  · subst e; rw [va_up_self]; exact hk
  · rw [va_up_ne _ _ e]; exact ho j hj e (hm.1 j hj)
section WM
variable {po : Nat → Int32} {rr : Nat → wr_V} {g0 g1 g2 g3 g4 g5 g6 g7 g8 g9 : Nat → Int32} {t k r : Nat}
theorem wm_book (hm : wm_r po rr g0 g1 g2 g3 g4 g5 g6 g7 g8 g9) (hk : k < 40) (hr : r < 10) (hf : rfi (rr k) = false) : wm_r po (va_up rr k (vBook (rr k) r)) g0 g1 g2 g3 g4 (upd g5 (10 * k + r) 1) g6 g7 g8 g9 := by
  refine wm_up hm (fun j hj e h => ⟨h.1, h.2.1, h.2.2.1, h.2.2.2.1, h.2.2.2.2.1, fun q hq => ?_⟩) ?_
  · have := h.2.2.2.2.2 q hq; rw [upd_o _ e hr hq]; exact this
  · obtain ⟨a0, a1, a2, a3, a4, a5⟩ := hm.1 k hk
    refine ⟨a0, a1, a2, a3, a4, fun q hq => ⟨?_, (a5 q hq).2⟩⟩
    by_cases e : q = r
    · subst e; rw [upd_h]
      show (1 : Int32) = nI (if rfi (rr k) then 0 else if va_up (rbk (rr k)) q true q then 1 else _)
      rw [hf, va_up_self]; rfl
    · rw [upd_s _ e, (a5 q hq).1]
      show nI (stN (rr k) q) = nI (if rfi (rr k) then 0 else if va_up (rbk (rr k)) r true q then 1 else if rsd (rr k) q then 2 else 0)
      rw [va_up_ne _ _ e]; rfl
theorem wm_drop (hm : wm_r po rr g0 g1 g2 g3 g4 g5 g6 g7 g8 g9) (hi : wi t (rr k)) (hk : k < 40) (hr : r < 10) (hb : rbk (rr k) r = true) : wm_r po (va_up rr k (vDrop (rr k) r)) g0 g1 g2 g3 g4 (upd g5 (10 * k + r) 0) (upd g6 (10 * k + r) (rch (rr k) r + feeR (rr k))) g7 g8 g9 := by
  refine wm_up hm (fun j hj e h => ⟨h.1, h.2.1, h.2.2.1, h.2.2.2.1, h.2.2.2.2.1, fun q hq => ?_⟩) ?_
  · have := h.2.2.2.2.2 q hq; rw [upd_o _ e hr hq, upd_o _ e hr hq]; exact this
  · obtain ⟨a0, a1, a2, a3, a4, a5⟩ := hm.1 k hk
    refine ⟨a0, a1, a2, a3, a4, fun q hq => ⟨?_, ?_, (a5 q hq).2.2⟩⟩
    · by_cases e : q = r
      · subst e; rw [upd_h]
        show (0 : Int32) = nI (if rfi (rr k) then 0 else if va_up (rbk (rr k)) q false q then 1 else if rsd (rr k) q then 2 else 0)
        rw [va_up_self, hi.1 q hr hb]
        cases rfi (rr k) <;> rfl
      · rw [upd_s _ e, (a5 q hq).1]
        show nI (stN (rr k) q) = nI (if rfi (rr k) then 0 else if va_up (rbk (rr k)) r false q then 1 else if rsd (rr k) q then 2 else 0)
        rw [va_up_ne _ _ e]; rfl
    · show _ = upd (rch (rr k)) r (rch (rr k) r + feeR (rr k)) q
      by_cases e : q = r
      · subst e; rw [upd_h, upd_h]
      · rw [upd_s _ e, upd_d _ e]; exact (a5 q hq).2.1
theorem wm_take (hm : wm_r po rr g0 g1 g2 g3 g4 g5 g6 g7 g8 g9) (hk : k < 40) (hr : r < 10) (hf : rfi (rr k) = false) : wm_r po (va_up rr k (vTake (rr k) r)) g0 g1 g2 g3 g4 (upd g5 (10 * k + r) 2) g6 g7 g8 g9 := by
  refine wm_up hm (fun j hj e h => ⟨h.1, h.2.1, h.2.2.1, h.2.2.2.1, h.2.2.2.2.1, fun q hq => ?_⟩) ?_
  · have := h.2.2.2.2.2 q hq; rw [upd_o _ e hr hq]; exact this
  · obtain ⟨a0, a1, a2, a3, a4, a5⟩ := hm.1 k hk
    refine ⟨a0, a1, a2, a3, a4, fun q hq => ⟨?_, (a5 q hq).2⟩⟩
    by_cases e : q = r
    · subst e; rw [upd_h]
      show (2 : Int32) = nI (if rfi (rr k) then 0 else if va_up (rbk (rr k)) q false q then 1 else if va_up (rsd (rr k)) q true q then 2 else 0)
      rw [hf, va_up_self, va_up_self]; rfl
    · rw [upd_s _ e, (a5 q hq).1]
      show nI (stN (rr k) q) = nI (if rfi (rr k) then 0 else if va_up (rbk (rr k)) r false q then 1 else if va_up (rsd (rr k)) r true q then 2 else 0)
      rw [va_up_ne _ _ e, va_up_ne _ _ e]; rfl
theorem wm_out (hm : wm_r po rr g0 g1 g2 g3 g4 g5 g6 g7 g8 g9) (hk : k < 40) (hr : r < 10) (hs : stN (rr k) r = 2) : wm_r po (va_up rr k (vOut (rr k) r)) g0 g1 g2 g3 g4 (upd g5 (10 * k + r) 0) g6 g7 g8 g9 := by
  refine wm_up hm (fun j hj e h => ⟨h.1, h.2.1, h.2.2.1, h.2.2.2.1, h.2.2.2.2.1, fun q hq => ?_⟩) ?_
  · have := h.2.2.2.2.2 q hq; rw [upd_o _ e hr hq]; exact this
  · obtain ⟨a0, a1, a2, a3, a4, a5⟩ := hm.1 k hk
    refine ⟨a0, a1, a2, a3, a4, fun q hq => ⟨?_, (a5 q hq).2⟩⟩
    by_cases e : q = r
    · subst e; rw [upd_h]
      show (0 : Int32) = nI (if rfi (rr k) then 0 else if rbk (rr k) q then 1 else if va_up (rsd (rr k)) q false q then 2 else 0)
      rw [va_up_self]
      have hb : rbk (rr k) q = false := by
        unfold stN at hs
        cases h : rbk (rr k) q with
        | false => rfl
        | true => rw [h] at hs; cases h2 : rfi (rr k) <;> rw [h2] at hs <;> simp at hs
      rw [hb]; cases rfi (rr k) <;> rfl
    · rw [upd_s _ e, (a5 q hq).1]
      show nI (stN (rr k) q) = nI (if rfi (rr k) then 0 else if rbk (rr k) q then 1 else if va_up (rsd (rr k)) r false q then 2 else 0)
      rw [va_up_ne _ _ e]; rfl
theorem wm_dis (hm : wm_r po rr g0 g1 g2 g3 g4 g5 g6 g7 g8 g9) (hi : wi t (rr k)) (hk : k < 40) (hr : r < 10) (hd : rdp (rr k) r = false) : wm_r po (va_up rr k (vDis (rr k) r)) g0 g1 g2 g3 g4 g5 g6 (upd g7 (10 * k + r) 1) g8 g9 := by
  refine wm_up hm (fun j hj e h => ⟨h.1, h.2.1, h.2.2.1, h.2.2.2.1, h.2.2.2.2.1, fun q hq => ?_⟩) ?_
  · have := h.2.2.2.2.2 q hq; rw [upd_o _ e hr hq]; exact this
  · obtain ⟨a0, a1, a2, a3, a4, a5⟩ := hm.1 k hk
    refine ⟨a0, a1, a2, a3, a4, fun q hq => ⟨(a5 q hq).1, (a5 q hq).2.1, ?_, (a5 q hq).2.2.2⟩⟩
    by_cases e : q = r
    · subst e; rw [upd_h]
      have hse : rse (rr k) q = false := by
        cases h : rse (rr k) q with
        | false => rfl
        | true => have := hi.2.2.2.2.1 q hr h; rw [hd] at this; cases this
      show (1 : Int32) = nI (if va_up (rdp (rr k)) q true q then (if rse (rr k) q then (if rfa (rr k) q then 3 else 2) else 1) else 0)
      rw [va_up_self, hse]; rfl
    · rw [upd_s _ e, (a5 q hq).2.2.1]
      show nI (dpN (rr k) q) = nI (if va_up (rdp (rr k)) r true q then (if rse (rr k) q then (if rfa (rr k) q then 3 else 2) else 1) else 0)
      rw [va_up_ne _ _ e]; rfl
theorem wm_ref {pc : Int32} {b : Bool} (hm : wm_r po rr g0 g1 g2 g3 g4 g5 g6 g7 g8 g9) (hi : wi t (rr k)) (hk : k < 40) (hr : r < 10) (hd : rdp (rr k) r = true) (hs : rse (rr k) r = false) : wm_r po (va_up rr k (vRef (rr k) r pc b)) g0 g1 g2 g3 g4 g5 g6 (upd g7 (10 * k + r) (if b then 3 else 2)) (upd g8 (10 * k + r) (rfv (rr k) r pc)) g9 := by
  refine wm_up hm (fun j hj e h => ⟨h.1, h.2.1, h.2.2.1, h.2.2.2.1, h.2.2.2.2.1, fun q hq => ?_⟩) ?_
  · have := h.2.2.2.2.2 q hq; rw [upd_o _ e hr hq, upd_o _ e hr hq]; exact this
  · obtain ⟨a0, a1, a2, a3, a4, a5⟩ := hm.1 k hk
    refine ⟨a0, a1, a2, a3, a4, fun q hq => ⟨(a5 q hq).1, (a5 q hq).2.1, ?_, ?_⟩⟩
    · by_cases e : q = r
      · subst e; rw [upd_h]
        have hfa : rfa (rr k) q = false := by
          cases h : rfa (rr k) q with
          | false => rfl
          | true => have := hi.2.2.2.1 q hr h; rw [hs] at this; cases this
        show _ = nI (if rdp (rr k) q then (if va_up (rse (rr k)) q true q then (if (if b then va_up (rfa (rr k)) q true else rfa (rr k)) q then 3 else 2) else 1) else 0)
        rw [hd, va_up_self]
        cases b with
        | true => simp only [if_true, va_up_self]; rfl
        | false => simp only [Bool.false_eq_true, if_false, hfa]; rfl
      · rw [upd_s _ e, (a5 q hq).2.2.1]
        show nI (dpN (rr k) q) = nI (if rdp (rr k) q then (if va_up (rse (rr k)) r true q then (if (if b then va_up (rfa (rr k)) r true else rfa (rr k)) q then 3 else 2) else 1) else 0)
        rw [va_up_ne _ _ e]
        cases b with
        | true => simp only [if_true, va_up_ne _ _ e]; rfl
        | false => rfl
    · show _ = upd (rrf (rr k)) r (rfv (rr k) r pc) q
      by_cases e : q = r
      · subst e; rw [upd_h, upd_h]
      · rw [upd_s _ e, upd_d _ e]; exact (a5 q hq).2.2.2
theorem wm_str {m : Nat} (hm : wm_r po rr g0 g1 g2 g3 g4 g5 g6 g7 g8 g9) (hi : wi t (rr k)) (ht : t ≤ 512) (hk : k < 40) (hm1 : 1 ≤ m) (hm2 : m ≤ 120) (hf : rfi (rr k) = false) {cost : Int32} (hN : mny (rr k) 2 = cb (rsd (rr k)) 10) : wm_r po (va_up rr k (vStr (rr k) cost (nI m))) g0 g1 (upd g2 k (rmi (rr k) + nI m)) g3 (upd g4 k 1) g5 (arr g6 k (stchg (rsd (rr k)) (rch (rr k)) cost) 10) g7 g8 g9 := by
  refine wm_up hm (fun j hj e h => ⟨h.1, h.2.1, ?_, h.2.2.2.1, ?_, fun q hq => ?_⟩) ?_
  · rw [upd_d _ e]; exact h.2.2.1
  · rw [upd_d _ e]; exact h.2.2.2.2.1
  · have := h.2.2.2.2.2 q hq; rw [arr_out _ _ _ e hq]; exact this
  · obtain ⟨a0, a1, a2, a3, a4, a5⟩ := hm.1 k hk
    obtain ⟨x, x1, x2⟩ := hi.2.2.2.2.2.1
    refine ⟨a0, a1, upd_h _, a3, ?_, fun q hq => ⟨(a5 q hq).1, arr_in _ _ _ hq, (a5 q hq).2.2⟩⟩
    rw [upd_h]
    show (1 : Int32) = bI (!decide (rmi (rr k) + nI m = 0))
    rw [x2, nI_add, decide_eq_false (nI_ne0 (by omega) (by omega))]; rfl
theorem wm_end (hm : wm_r po rr g0 g1 g2 g3 g4 g5 g6 g7 g8 g9) (hk : k < 40) : wm_r po (va_up rr k (vEnd (rr k))) g0 g1 g2 (upd g3 k 1) g4 (arr g5 k (fun _ => 0) 10) (arr g6 k (endc (rbk (rr k)) (rch (rr k)) 10) 10) g7 g8 g9 := by
  refine wm_up hm (fun j hj e h => ⟨h.1, h.2.1, h.2.2.1, ?_, h.2.2.2.2.1, fun q hq => ?_⟩) ?_
  · rw [upd_d _ e]; exact h.2.2.2.1
  · have := h.2.2.2.2.2 q hq; rw [arr_out _ _ _ e hq, arr_out _ _ _ e hq]; exact this
  · obtain ⟨a0, a1, a2, a3, a4, a5⟩ := hm.1 k hk
    refine ⟨a0, a1, a2, upd_h _, a4, fun q hq => ⟨?_, arr_in _ _ _ hq, (a5 q hq).2.2⟩⟩
    rw [arr_in _ _ _ hq]; rfl
theorem wm_new {d w : Int32} (hm : wm_r po rr g0 g1 g2 g3 g4 g5 g6 g7 g8 g9) (hk : k < 40) (hz : rr k = vNew 0 0) : wm_r po (va_up rr k (vNew d w)) (upd g0 k d) (upd g1 k w) g2 g3 g4 g5 g6 g7 g8 g9 := by
  refine wm_up hm (fun j hj e h => ⟨?_, ?_, h.2.2⟩) ?_
  · rw [upd_d _ e]; exact h.1
  · rw [upd_d _ e]; exact h.2.1
  · obtain ⟨a0, a1, a2⟩ := hm.1 k hk
    rw [hz] at a2
    exact ⟨upd_h _, upd_h _, a2⟩
end WM
/-! what each call answers: 0, or which of its exceptions; told of the purse alone -/
def srC (p q : Int32) : Int32 := if rngB p 0 1000 && rngB q 0 1000 then 0 else 1
def stC (rr : Nat → wr_V) (n : Nat) (p : Int32) : Int32 := if okN 5 p then (if drvS rr n p || decide (n = 40) then 2 else 0) else 1
def rdC (n : Nat) (p q : Int32) (b : Bool) : Int32 := if okN n p && okN 10 q then (if b then 2 else 0) else 1
def bkB (v : wr_V) (r : Nat) : Bool := rfi v || (rbk v r || rsd v r) || decide (freeR v ≤ 0)
def cnB (v : wr_V) (r : Nat) : Bool := rfi v || !rbk v r
def bdB (v : wr_V) (r : Nat) : Bool := rfi v || rsd v r || (!rbk v r && decide (freeR v ≤ 0))
def lvB (v : wr_V) (r : Nat) : Bool := rfi v || !rsd v r
def dsB (v : wr_V) (r : Nat) : Bool := !rfi v || decide (rch v r = 0) || rdp v r
def dvC (n : Nat) (p a b : Int32) (fi : Bool) : Int32 := if okN n p then (if rngB a 0 100 && rngB b 1 120 then (if fi then 3 else 0) else 2) else 1
def fnC (n : Nat) (p : Int32) (fi : Bool) : Int32 := if okN n p then (if fi then 2 else 0) else 1
def okC (n : Nat) (p : Int32) : Int32 := if okN n p then 0 else 1
def ok2C (n : Nat) (p q : Int32) : Int32 := if okN n p && okN 10 q then 0 else 1
def slC (n : Nat) (p q a : Int32) (b : Bool) : Int32 := if okN n p && okN 10 q then (if rngB a 0 100 then (if b then 3 else 0) else 2) else 1
def cwC (rr : Nat → wr_V) (n wk : Nat) : Int32 := if undS rr n || decide (wk = 20) then 1 else 0
def ewC (wk : Nat) (p q : Int32) : Int32 := if okN 5 p then (if rngB q 0 (nI wk) then 0 else 2) else 1
def avC (rr : Nat → wr_V) (n : Nat) (p : Int32) : Int32 := if okN 10 p then (if avcS rr n (ix p) = 0 then 2 else 0) else 1
def rideV (rr : Nat → wr_V) (p : Int32) : wr_V := rr (ix p)
theorem wm_no {G : wy_G} {L : List Nat} {f : Nat → va_E} {om : Nat} {ma : Nat → Nat} {n n2 : Nat} {km mn km2 mn2 : Int32} {wk wk2 : Nat} {po po2 : Nat → Int32} {rr rr2 : Nat → wr_V} {g0 g1 g2 g3 g4 g5 g6 g7 g8 g9 : Nat → Int32} {C V c : Int32} (hC : C = c) (h0 : ¬ c = 0) (hq : wm_S G L f om ma n km mn wk c g0 g1 g2 g3 g4 g5 g6 g7 g8 g9) (hm : wm_r po rr g0 g1 g2 g3 g4 g5 g6 g7 g8 g9) : wm_p G L om ma (if C = 0 then n2 else n) (if C = 0 then km2 else km) (if C = 0 then mn2 else mn) (if C = 0 then wk2 else wk) (if C = 0 then po2 else po) (if C = 0 then rr2 else rr) C (some (.int (if C = 0 then V else 0))) (some (.int 0)) L f := by
  subst hC
  simp only [if_neg h0]
  exact ⟨rfl, rfl, g0, g1, g2, g3, g4, g5, g6, g7, g8, g9, hq, hm⟩
theorem wm_ok {G : wy_G} {L : List Nat} {f : Nat → va_E} {om : Nat} {ma : Nat → Nat} {n n2 : Nat} {km mn km2 mn2 : Int32} {wk wk2 : Nat} {po po2 : Nat → Int32} {rr rr2 : Nat → wr_V} {g0 g1 g2 g3 g4 g5 g6 g7 g8 g9 : Nat → Int32} {C V V' : Int32} (hC : C = 0) (hV : V' = V) (hq : wm_S G L f om ma n2 km2 mn2 wk2 0 g0 g1 g2 g3 g4 g5 g6 g7 g8 g9) (hm : wm_r po2 rr2 g0 g1 g2 g3 g4 g5 g6 g7 g8 g9) : wm_p G L om ma (if C = 0 then n2 else n) (if C = 0 then km2 else km) (if C = 0 then mn2 else mn) (if C = 0 then wk2 else wk) (if C = 0 then po2 else po) (if C = 0 then rr2 else rr) C (some (.int (if C = 0 then V else 0))) (some (.int V')) L f := by
  subst hC hV
  simp only [if_true]
  exact ⟨rfl, rfl, g0, g1, g2, g3, g4, g5, g6, g7, g8, g9, hq, hm⟩
theorem stN0 {v : wr_V} {r : Nat} (hf : rfi v = false) : stN v r = 0 ↔ (rbk v r || rsd v r) = false := by
  unfold stN; rw [hf]; cases rbk v r <;> cases rsd v r <;> simp
theorem stN1 {v : wr_V} {r : Nat} (hf : rfi v = false) : stN v r = 1 ↔ rbk v r = true := by
  unfold stN; rw [hf]; cases rbk v r <;> cases rsd v r <;> simp
theorem stN2 {t : Nat} {v : wr_V} {r : Nat} (hi : wi t v) (hr : r < 10) (hf : rfi v = false) : stN v r = 2 ↔ rsd v r = true := by
  have := hi.1 r hr
  unfold stN; rw [hf]; cases h1 : rbk v r <;> cases h2 : rsd v r <;> simp
  exact absurd ((this h1).symm.trans h2) (by decide)
theorem dpN0 {v : wr_V} {r : Nat} : dpN v r = 0 ↔ rdp v r = false := by
  unfold dpN; cases rdp v r <;> simp
  split <;> (try split) <;> decide
theorem dpN1 {v : wr_V} {r : Nat} : dpN v r = 1 ↔ (!rdp v r || rse v r) = false := by
  unfold dpN; cases rdp v r <;> cases rse v r <;> cases rfa v r <;> simp
theorem wi_all {t k : Nat} {rr : Nat → wr_V} {v : wr_V} (hi : ∀ j, j < 40 → wi t (rr j)) (hv : wi (t + 1) v) : ∀ j, j < 40 → wi (t + 1) (va_up rr k v j) := fun j hj => by
  by_cases e : j = k
  · subst e; rw [va_up_self]; exact hv
  · rw [va_up_ne _ _ e]; exact wi_up (hi j hj)
theorem muB_drv {rr : Nat → wr_V} {n : Nat} {p : Int32} (h : okN 5 p = true) : anyB (muB rr p) n = drvS rr n p := by
  have hp : ¬ p = -1 := fun z => by subst z; revert h; decide
  have e : muB rr p = fun k => decide (rdv (rr k) = p) && !rfi (rr k) := by
    funext k; simp [muB, hp, Bool.and_comm]
  rw [e]; rfl
theorem muB_und {rr : Nat → wr_V} {n : Nat} : anyB (muB rr (-1)) n = undS rr n := by
  have e : muB rr (-1) = fun k => !rfi (rr k) := by
    funext k; simp [muB]
  rw [e]; rfl
