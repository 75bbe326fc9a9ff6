/-! what the law's seats want: what each call makes of the rides, and of the books -/
theorem upd_id (v : Nat → Int32) (k : Nat) : upd v k (v k) = v := by
  funext j
  by_cases e : j = k
  · subst e; exact pk_us
  · exact pk_un e
def bkv (v : wr_V) (i : Nat) : Bool := !rfi v && rbk v i
theorem P_bit (b : Nat → Bool) {j : Nat} (hj : j < 10) : (mks b >>> (nI j &&& 31)) &&& 1 = bI (b j) := by
  rw [bq_bit _ (by omega), mks_bt _ (by omega)]; simp [hj]
theorem P_vbit (v : wr_V) {j : Nat} (hj : j < 10) : (vmk v >>> (nI j &&& 31)) &&& 1 = bI (bkv v j) := by
  rw [bq_bit _ (by omega), vmk_bt _ (by omega)]; simp [hj, bkv]
theorem P_free {v : wr_V} (hf : rfi v = false) : 4 - nI (cb (fun i => decide (i < 10) && rsd v i) 20) - nI (cb (fun i => decide (i < 10) && (!rfi v && rbk v i)) 20) = freeR v := by
  rw [cb_20, cb_20]
  unfold freeR
  rw [hf]
  simp only [Bool.not_false, Bool.true_and]
  rw [wy_subadd, wy_subadd, Int32.add_comm]
theorem rdC_ok {n : Nat} {p q : Int32} {b : Bool} (h1 : okN n p = true) (h2 : okN 10 q = true) (hb : b = false) : rdC n p q b = 0 := by simp [rdC, h1, h2, hb]
theorem rdC_no {n : Nat} {p q : Int32} {b : Bool} (h1 : okN n p = true) (h2 : okN 10 q = true) (hb : b = true) : rdC n p q b = 2 := by simp [rdC, h1, h2, hb]
theorem rdC_o1 {n : Nat} {p q : Int32} {b : Bool} (h1 : okN n p = false) : rdC n p q b = 1 := by simp [rdC, h1]
theorem rdC_o2 {n : Nat} {p q : Int32} {b : Bool} (h1 : okN 10 q = false) : rdC n p q b = 1 := by simp [rdC, h1]
theorem wd_ok {G : wy_G} {ox lo n : Nat} {km mn : Int32} {wk : Nat} {po : Nat → Int32} {rr : Nat → wr_V} {L L1 : List Nat} {f f1 fx : Nat → va_E} {V C er : Int32} {r : Value} (h : wd_p G ox lo n km mn wk po rr L f V C er r L1 f1 fx) (hC : C = 0) : r = .int V ∧ ∃ ra ar, wx_S G L1 f1 ox lo ra ar n km mn wk po rr :=
  h.elim (fun z => z.2) (fun z => absurd hC z.1)
theorem wd_er {G : wy_G} {ox lo n n0 : Nat} {km mn km0 mn0 : Int32} {wk wk0 : Nat} {po po0 : Nat → Int32} {rr rr0 : Nat → wr_V} {L L1 : List Nat} {f f1 fx : Nat → va_E} {V C er : Int32} {r : Value} {ra ar : Nat → Nat} (h : wd_p G ox lo n km mn wk po rr L f V C er r L1 f1 fx) (hC : ¬ C = 0) (hq : wx_S G L f ox lo ra ar n0 km0 mn0 wk0 po0 rr0) : r = .int er ∧ wx_S G L1 f1 ox lo ra ar n0 km0 mn0 wk0 po0 rr0 :=
  h.elim (fun z => absurd z.1 hC) (fun z => ⟨z.2.1, wx_tr hq z.2.2.1 z.2.2.2⟩)
/-- all that stands between two steps of the law -/
def wZ (G : wy_G) (ox lo ad av ao af ag : Nat) (La : List Nat) (t : Nat) (L : List Nat) (f fa : Nat → va_E) : Prop := ∃ (ra ar : Nat → Nat) (n : Nat) (km mn : Int32) (wk : Nat) (po : Nat → Int32) (rr : Nat → wr_V) (d v o fr g : Nat → Int32),
  wx_S G L f ox lo ra ar n km mn wk po rr ∧ wR G La fa ad av ao af ag d v o fr g ∧ wJ t n km mn wk po rr ∧ wB n km mn wk rr d v o fr g
section PJ4
variable {t n wk : Nat} {km mn : Int32} {po : Nat → Int32} {rr : Nat → wr_V} {d v o f g : Nat → Int32} {k r : Nat}
theorem wJ.up (h : wJ t n km mn wk po rr) : wJ (t + 1) n km mn wk po rr :=
  ⟨h.1.same, h.2.1, h.2.2.1, h.2.2.2.1, by have := h.2.2.2.2.1; omega, h.2.2.2.2.2⟩
theorem wJ.set {v' : wr_V} (h : wJ t n km mn wk po rr) (hk : k < n) (hw : wi (t + 1) v') (hr : wj_r wk v') (hb : tN v' ≤ tN (rr k) + 250000) : wJ (t + 1) n km mn wk po (va_up rr k v') := by
  refine ⟨h.1.up hk hw, h.2.1, h.2.2.1, fun j hj => ?_, ?_, h.2.2.2.2.2⟩
  · by_cases e : j = k
    · subst e; rw [va_up_self]; exact hr
    · rw [va_up_ne _ _ e]; exact h.2.2.2.1 j hj
  · have e : ns (fun j => tN (va_up rr k v' j)) n = ns (va_up (fun j => tN (rr j)) k (tN v')) n := ns_congr n (fun j hj => by
      by_cases e : j = k
      · subst e; rw [va_up_self, va_up_self]
      · rw [va_up_ne _ _ e, va_up_ne _ _ e])
    have h1 := ns_up (fun j => tN (rr j)) (x := tN v') n hk
    have h2 := h.2.2.2.2.1
    rw [e]
    omega
theorem wB.seat {v' : wr_V} {x : Int32} (h : wB n km mn wk rr d v o f g) (hk : k < n) (e1 : rdv v' = rdv (rr k)) (e2 : rfi v' = rfi (rr k)) (e3 : rmi v' = rmi (rr k)) (e4 : rdp v' = rdp (rr k)) (e5 : rse v' = rse (rr k)) (e6 : rrf v' = rrf (rr k)) (e7 : vmk v' = x) : wB n km mn wk (va_up rr k v') d (upd v k x) o f g := by
  obtain ⟨h1, h2, h3, h4, h5, h6, h7, h8, h9, h10, h11⟩ := h
  have key : ∀ {α : Type} (F : wr_V → α), F v' = F (rr k) → ∀ j, F (va_up rr k v' j) = F (rr j) := fun F e j => by
    by_cases z : j = k
    · subst z; rw [va_up_self]; exact e
    · rw [va_up_ne _ _ z]
  refine ⟨fun j hj => ?_, fun j hj => ?_, fun j hj => ?_, fun j hj => ?_, fun j hj => ?_, fun j hj => ?_, h7, h8, h9, h10, ?_⟩
  · rw [key rdv e1]; exact h1 j hj
  · rw [key rfi e2]; exact h2 j hj
  · rw [key hdv (by unfold hdv; rw [e3])]; exact h3 j hj
  · by_cases z : j = k
    · subst z; rw [va_up_self, pk_us]; exact e7.symm
    · rw [va_up_ne _ _ z, pk_un z]; exact h4 j hj
  · rw [key omk (by unfold omk; congr 2; funext i; unfold obt; rw [e4, e5])]; exact h5 j hj
  · rw [h6 j hj]
    exact bx_congr n (fun i hi => by rw [key rrf e6])
  · rw [h11]
    unfold opdS
    exact bx_congr n (fun i hi => by rw [key rdp e4, key rse e5])
theorem wB.noop (h : wB n km mn wk rr d v o f g) {v1 : Nat → Int32} (e : v1 = upd v k (v k)) : wB n km mn wk rr d v1 o f g := by rw [e, upd_id]; exact h
/-- a booking -/
theorem J_book (h : wJ t n km mn wk po rr) (hk : k < n) (hr : r < 10) (hb : bkB (rr k) r = false) : wJ (t + 1) n km mn wk po (va_up rr k (vBook (rr k) r)) := by
  have hn := h.2.1
  simp only [bkB, Bool.or_eq_false_iff, decide_eq_false_iff_not] at hb
  exact h.set hk (wi_book (h.wix (by omega)) hr hb.1.1 hb.1.2.2 hb.2) (h.2.2.2.1 k hk) (Nat.le_add_right _ _)
theorem B_book (hB : wB n km mn wk rr d v o f g) (hk : k < n) (hn : n ≤ 20) (hr : r < 10) (hb : bkB (rr k) r = false) {v1 : Nat → Int32} {p : Int32} (ep : p = nI r) (e : v1 = upd v k (v k ||| (1 <<< (p &&& 31)))) : wB n km mn wk (va_up rr k (vBook (rr k) r)) d v1 o f g := by
  simp only [bkB, Bool.or_eq_false_iff, decide_eq_false_iff_not] at hb
  rw [e, hB.vk (by omega), ep]
  refine hB.seat hk rfl rfl rfl rfl rfl rfl ?_
  have hf : rfi (vBook (rr k) r) = false := hb.1.1
  unfold vmk
  rw [hf, hb.1.1]
  exact (mks_or _ hr).symm
/-- a booking given up -/
theorem wJ.un (h : wJ t n km mn wk po rr) (hk : k < n) (hf : rfi (rr k) = false) {r : Nat} (hr : r < 10) : rdp (rr k) r = false ∧ rse (rr k) r = false ∧ rrf (rr k) r = 0 := by
  have hn := h.2.1
  have h1 : rdp (rr k) r = false := by
    cases z : rdp (rr k) r with
    | false => rfl
    | true => rw [((h.2.2.2.1 k hk).2.2.1 r hr z).1] at hf; cases hf
  have h2 : rse (rr k) r = false := by
    cases z : rse (rr k) r with
    | false => rfl
    | true => rw [(h.wix (k := k) (by omega)).2.2.2.2.1 r hr z] at h1; cases h1
  exact ⟨h1, h2, (h.2.2.2.1 k hk).2.2.2.1 r hr h2⟩
/-- a ride under way: what is charged may change in any way -/
theorem wJ.und (h : wJ t n km mn wk po rr) (hk : k < n) (hf : rfi (rr k) = false) {v' : wr_V} (e1 : rdv v' = rdv (rr k)) (e2 : rwk v' = rwk (rr k)) (e4 : rdp v' = rdp (rr k)) (e5 : rse v' = rse (rr k)) (e6 : rrf v' = rrf (rr k)) : wj_r wk v' := by
  obtain ⟨h1, h2, h3, h4, h5⟩ := h.2.2.2.1 k hk
  refine ⟨by rw [e2]; exact h1, by rw [e1]; exact h2, fun r hr z => ?_, fun r hr z => by rw [e6]; exact h4 r hr (by rw [← e5]; exact z), fun r hr => ?_⟩
  · rw [e4, (h.un hk hf hr).1] at z; cases z
  · have z : rrf v' r = 0 := by rw [e6]; exact (h.un hk hf hr).2.2
    have z2 : fN v' r = 0 := by unfold fN; rw [z]; decide
    rw [z, z2]
    exact ⟨rfl, Nat.zero_le _⟩
theorem J_drop (h : wJ t n km mn wk po rr) (ht : t ≤ 80) (hk : k < n) (hr : r < 10) (hb : cnB (rr k) r = false) : wJ (t + 1) n km mn wk po (va_up rr k (vDrop (rr k) r)) := by
  have hn := h.2.1
  simp only [cnB, Bool.or_eq_false_iff] at hb
  refine h.set hk (wi_drop (h.wix (by omega)) hr) (h.und hk hb.1 rfl rfl rfl rfl rfl) ?_
  have hc := h.cle ht hk hr
  have he := h.ch ht hk hr
  have e1 : cN (vDrop (rr k) r) r ≤ cN (rr k) r + 250 := by
    show (upd (rch (rr k)) r (rch (rr k) r + feeR (rr k)) r).toNatClampNeg ≤ _
    rw [pk_us, he]
    unfold feeR
    split
    · rw [Int32.add_zero, nI_clamp (by omega)]; omega
    · rw [show (250 : Int32) = nI 250 from rfl, nI_add, nI_clamp (by omega)]; omega
  have e2 : ns (cN (vDrop (rr k) r)) 10 = ns (va_up (cN (rr k)) r (cN (vDrop (rr k) r) r)) 10 := ns_congr 10 (fun j hj => by
    by_cases e : j = r
    · subst e; rw [va_up_self]
    · rw [va_up_ne _ _ e]
      show (upd (rch (rr k)) r (rch (rr k) r + feeR (rr k)) j).toNatClampNeg = _
      rw [pk_un e]; rfl)
  have h3 := ns_up (cN (rr k)) (x := cN (vDrop (rr k) r) r) 10 hr
  show ns (cN (vDrop (rr k) r)) 10 ≤ ns (cN (rr k)) 10 + 250000
  omega
theorem B_drop (hB : wB n km mn wk rr d v o f g) (hk : k < n) (hn : n ≤ 20) (hr : r < 10) (hb : cnB (rr k) r = false) {v1 : Nat → Int32} {p : Int32} (ep : p = nI r) (e : v1 = upd v k (v k &&& ((1 <<< (p &&& 31)) ^^^ (-1)))) : wB n km mn wk (va_up rr k (vDrop (rr k) r)) d v1 o f g := by
  simp only [cnB, Bool.or_eq_false_iff] at hb
  rw [e, hB.vk (by omega), ep]
  refine hB.seat hk rfl rfl rfl rfl rfl rfl ?_
  have hf : rfi (vDrop (rr k) r) = false := hb.1
  unfold vmk
  rw [hf, hb.1]
  exact (mks_andn _ hr).symm
/-- boarding -/
theorem J_take (h : wJ t n km mn wk po rr) (hk : k < n) (hr : r < 10) (hb : bdB (rr k) r = false) : wJ (t + 1) n km mn wk po (va_up rr k (vTake (rr k) r)) := by
  have hn := h.2.1
  simp only [bdB, Bool.or_eq_false_iff] at hb
  refine h.set hk (wi_take (h.wix (by omega)) hr hb.1.1 hb.1.2 ?_) (h.2.2.2.1 k hk) (Nat.le_add_right _ _)
  cases z : rbk (rr k) r with
  | true => exact Or.inl rfl
  | false =>
    have := hb.2
    rw [z] at this
    simp only [Bool.not_false, Bool.true_and, decide_eq_false_iff_not] at this
    exact Or.inr this
theorem B_take (hB : wB n km mn wk rr d v o f g) (hk : k < n) (hn : n ≤ 20) (hr : r < 10) (hb : bdB (rr k) r = false) {v1 : Nat → Int32} {p : Int32} (ep : p = nI r) (e : v1 = upd v k (v k &&& ((1 <<< (p &&& 31)) ^^^ (-1)))) : wB n km mn wk (va_up rr k (vTake (rr k) r)) d v1 o f g := by
  simp only [bdB, Bool.or_eq_false_iff] at hb
  rw [e, hB.vk (by omega), ep]
  refine hB.seat hk rfl rfl rfl rfl rfl rfl ?_
  have hf : rfi (vTake (rr k) r) = false := hb.1.1
  unfold vmk
  rw [hf, hb.1.1]
  exact (mks_andn _ hr).symm
/-- leaving -/
theorem J_out (h : wJ t n km mn wk po rr) (hk : k < n) (hr : r < 10) : wJ (t + 1) n km mn wk po (va_up rr k (vOut (rr k) r)) := by
  have hn := h.2.1
  exact h.set hk (wi_out (h.wix (by omega)) hr) (h.2.2.2.1 k hk) (Nat.le_add_right _ _)
theorem B_out (hB : wB n km mn wk rr d v o f g) (hk : k < n) (hn : n ≤ 20) {v1 : Nat → Int32} (e : v1 = upd v k (v k)) : wB n km mn wk (va_up rr k (vOut (rr k) r)) d v1 o f g := by
  rw [e, hB.vk (by omega)]
  exact hB.seat hk rfl rfl rfl rfl rfl rfl rfl
end PJ4
