/-! the same with an array of one double -/
/-- the answer's cell: double[1] -/
def wd_e (G : wy_G) (fo : Nat → UInt64) : va_E := .inl (G.2 4, 1, .inr (.inr (.inr (.inl fo))))
def wd_c (G : wy_G) (oo : Nat) (fo : Nat → UInt64) (H : Heap) : Prop := va_at G.1 vwCl (oo, wd_e G fo) H
def wd_P (G : wy_G) (L : List Nat) (f : Nat → va_E) (oo sz : Nat) (U : State) : Prop := wy_W G L f sz U ∧ wt_E (wy_A (L ++ [oo]) sz) U ∧ wl_E G (wy_A (L ++ [oo]) sz) U ∧ wc_N U ∧ oo ∉ L ∧ oo < sz ∧ ∃ fo, wd_c G oo fo U.heap
def wd_Q (G : wy_G) (L : List Nat) (oo sz : Nat) (post : Int32 → List Nat → (Nat → va_E) → UInt64 → Prop) : Array Value → State → Outcome → State → Prop := fun _ st oc t =>
  (∃ (C : Int32) (L' : List Nat) (f' : Nat → va_E) (fo : Nat → UInt64), oc = .returned (some (.int C)) ∧ post C L' f' (fo 0) ∧ va_P G.1 vwCl (va_pl L' f') t.heap ∧ va_D (wy_A (L ++ [oo]) sz) (va_pl L' f') ∧ oo ∉ L' ∧ wd_c G oo fo t.heap) ∧ va_F (wy_A (L ++ [oo]) sz) st t
theorem wd_start {G : wy_G} {L : List Nat} {f : Nat → va_E} {oo sz : Nat} {U : State} (h : wd_P G L f oo sz U) : wy_H G L f (wy_A (L ++ [oo]) sz) U.heap U.heap [] ∧ wy_K G U ∧ (∀ q, U.heap.size ≤ q → wy_A (L ++ [oo]) sz q) ∧ wy_A (L ++ [oo]) sz oo := by
  obtain ⟨hw, hK, hA⟩ := wy_start h.1
  exact ⟨⟨hw.1, hw.2.1.weaken (fun _ q _ h => wo_A _ h), va_S.rf⟩, hK, fun q hq => wo_A _ (hA q hq), Or.inl (List.mem_append_right _ List.mem_cons_self)⟩
section WD
variable {p : Program} {l : Launch} {e : Env} {R : Room} {s : State} {m : MethodId} {args : Array Value} {below : List Frame} {meth : Method} {c : Code} {H : Heap} {locs : List Loc} {cells slots : Nat} {Q : State → Prop}
variable {cc : ByteArray} {pc : Nat} {ls : Array Slot} {rest st0 : List Value} {A : Nat → Prop} {G : wy_G} {L : List Nat} {f : Nat → va_E} {oo : Nat} {fo : Nat → UInt64}
theorem wd_last (hexec : p.tables.exec = Jvm.exec) (hb : c.code = cc) (hK : wy_K G s) (hw : wy_H G L f A s.heap H locs) (hO : wd_c G oo fo H) (hoo : oo ∉ L) (hA : A oo) {x : UInt64} (hdg : decode cc pc = .ok (.dastore, 1))
    (kk : ∀ (H1 : Heap) (locs1 : List Loc) (fo1 : Nat → UInt64), fo1 0 = x → wd_c G oo fo1 H1 → wy_H G L f A s.heap H1 locs1 → W p l e R s m args below meth c H1 locs1 cells slots Q (F0 m (pc + 1) ls rest)) : W p l e R s m args below meth c H locs cells slots Q (F0 m pc ls (.double x :: .int 0 :: .ref oo :: rest)) := by
  have hj := wo_join hw hO hoo hA
  have he : wy_c (L ++ [oo]) (va_up f oo (wd_e G fo)) oo (.inl (G.2 4, 1, .inr (.inr (.inr (.inl fo))))) := wy_c.new
  obtain ⟨q0, hq0, hq⟩ := wy_at he
  obtain ⟨hP, hD, hS⟩ := hj
  refine va_dast hexec hb hK hP hD hS q0 4 hq rfl (show vp_in 0 1 by unfold vp_in; decide) hdg (fun H1 locs1 hP1 hD1 hS1 => ?_)
  have hset := va_pl_set (X := []) (e := .inl (G.2 4, 1, .inr (.inr (.inr (.inl (vf_upd fo (0 : Int32).toNatClampNeg x)))))) hD he.1 hq0
  rw [List.nil_append, List.nil_append] at hset
  have hP1' := hP1
  rw [hset] at hP1 hD1
  refine kk H1 locs1 (vf_upd fo (0 : Int32).toNatClampNeg x) (by simp [vf_upd]) ?_ (wo_split ⟨hP1, hD1, hS1⟩ (fun z hz => ?_))
  · have hl := (List.getElem?_eq_some_iff.mp hq0).1
    exact hP1' q0 _ (List.getElem?_set_self hl)
  · have hn : z ≠ oo := fun q => hoo (q ▸ hz)
    rw [va_up_ne _ _ hn, va_up_ne _ _ hn]
theorem wd_call {mc ms : Nat} {av : Array Value} {post : Option Value → List Nat → (Nat → va_E) → Prop} {px : String → Prop} (hr : vx_Run p l e R s m args below meth c H locs cells slots mc ms (F0 m pc ls st0) rest (wy_Q G post (wy_A L H.size) av) (wt_X G px L f (wy_A L H.size)) (wy_A L H.size)) (hw : wy_H G L f A s.heap H locs) (hA : ∀ q, s.heap.size ≤ q → A q) (hoo : oo ∉ L) (hos : oo < H.size) (hO : wd_c G oo fo H)
    (kx : ∀ (E : String) (ce : Cell) (q : Addr) (H1 : Heap) (locs1 : List Loc), px E → wy_H G L f A s.heap H1 locs1 → wd_c G oo fo H1 → H1[q]? = some ce → ce.vm = .none → s.vm.findClass E = some ce.cls → vx_W p l e R s m args below meth c H1 locs1 (cells + mc) (slots + ms) Q (F0 m pc ls rest) q)
    (kk : ∀ (r : Option Value) (L' : List Nat) (f' : Nat → va_E) (H1 : Heap) (locs1 : List Loc), post r L' f' → wy_H G L' f' A s.heap H1 locs1 → oo ∉ L' → wd_c G oo fo H1 → W p l e R s m args below meth c H1 locs1 (cells + mc) (slots + ms) Q (F0 m (pc + 3) ls (r.toList ++ rest))) :
    W p l e R s m args below meth c H locs cells slots Q (F0 m pc ls st0) := by
  have hsub := hw.sub hA
  have hno : ¬ wy_A L H.size oo := fun z => z.elim hoo (fun q => absurd hos (by omega))
  obtain ⟨hP, hD, hS⟩ := hw
  intro T hT X
  rcases hr T hT X with ⟨v, st₀, t, T', Ls, h0, X', hL, e1, e2, ⟨⟨r, L', f', hv, hp, hPt, hDt⟩, hF⟩, st⟩ | ⟨q, st₀, t, T', Ls, E, ce, h0, X', hL, e1, e2, ⟨hp, hPt, hF⟩, hce, hcv, hcl, st⟩
  · cases hv
    obtain ⟨k1, k2, k3⟩ := vx_keep h0 e1 hS (fun q _ h => hsub q h) hsub hL hF
    have hoo' : oo ∉ L' := fun z => by
      obtain ⟨k, hk⟩ := va_pl_get (X := []) (f := f') z
      exact hno (hDt.2 k _ hk)
    obtain ⟨t2, a1, b1⟩ := kk v L' f' T'.heap (locs ++ Ls) hp ⟨by rw [e1]; exact hPt, hDt.weaken (fun _ q _ h => hsub q.1 h), k3⟩ hoo' ((show T'.heap[oo]? = some _ from (k2 oo hos hno).trans hO)) T' rfl X'
    exact ⟨t2, st t2 a1, b1⟩
  · obtain ⟨k1, k2, k3⟩ := vx_keep h0 e1 hS (fun q _ h => hsub q h) hsub hL hF
    obtain ⟨t2, a1, b1⟩ := kx E ce q T'.heap (locs ++ Ls) hp ⟨by rw [e1]; exact hPt, hD, k3⟩ ((show T'.heap[oo]? = some _ from (k2 oo hos hno).trans hO)) (by rw [e1]; exact hce) hcv hcl T' rfl X'
    exact ⟨t2, st.trans a1, b1⟩
theorem wd_ret {C : Int32} {L' : List Nat} {f' : Nat → va_E} {sz mc ms : Nat} {post : Int32 → List Nat → (Nat → va_E) → UInt64 → Prop} {XC : String → State → State → Prop} (hexec : p.tables.exec = Jvm.exec) (hb : c.code = cc) (hr : meth.sig.returnType = some .int) (hlocks : meth.locks = false) (hdg : decode cc pc = .ok (.ireturn, 1)) (hw : wy_H G L' f' (wy_A (L ++ [oo]) sz) s.heap H locs) (hO : wd_c G oo fo H) (hoo : oo ∉ L') (hc : cells ≤ mc) (hs : slots ≤ ms) (h : post C L' f' (fo 0)) : W p l e R s m args below meth c H locs cells slots (vx_MQ below (wd_Q G L oo sz post) XC args s mc ms (wy_A (L ++ [oo]) sz)) (F0 m pc ls [.int C]) :=
  vx_ret (W.widen hc hs (W.iret hexec hb hr (fun t ht hW => ⟨⟨C, L', f', fo, rfl, h, by rw [ht]; exact hw.1, hw.2.1, hoo, by rw [ht]; exact hO⟩, hw.2.2.F ht⟩) hw.2.2.2.2 hdg hlocks))
end WD
