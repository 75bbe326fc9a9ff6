/-! THE LAW'S WORLD: the purse's (L, f), the reference's (Lm, fm), the two arrays that answers go into -/
def wL (G : wy_G) (A : Nat → Prop) (H0 H : Heap) (locs : List Loc) (L : List Nat) (f : Nat → va_E) (Lm : List Nat) (fm : Nat → va_E) (oo : Nat) (fo : Nat → Int64) (od : Nat) (fd : Nat → UInt64) : Prop :=
  wy_H G L f A H0 H locs ∧ wy_H G Lm fm A H0 H locs ∧ (∀ q, q ∈ Lm → q ∉ L ∧ q ≠ oo ∧ q ≠ od) ∧ oo ∉ L ∧ od ∉ L ∧ oo ≠ od ∧ A oo ∧ A od ∧ oo < H.size ∧ od < H.size ∧ wo_c G oo fo H ∧ wd_c G od fd H
theorem wL.subO {G : wy_G} {A : Nat → Prop} {H0 H : Heap} {locs : List Loc} {L : List Nat} {f : Nat → va_E} {oo : Nat} (hw : wy_H G L f A H0 H locs) (hA : ∀ q, H0.size ≤ q → A q) (ho : A oo) : ∀ q, wy_A (L ++ [oo]) H.size q → A q := fun q hq => by
  rcases hq with hq | hq
  · rcases List.mem_append.mp hq with h | h
    · exact hw.mem h
    · rw [List.mem_singleton.mp h]; exact ho
  · exact hA q (Nat.le_trans hw.2.2.1 hq)
theorem wy_H.keep {G : wy_G} {A B : Nat → Prop} {H0 H H1 : Heap} {locs locs1 : List Loc} {L : List Nat} {f : Nat → va_E} (hw : wy_H G L f A H0 H locs) (hk : ∀ q, q < H.size → ¬ B q → H1[q]? = H[q]?) (hB : ∀ q, q ∈ L → ¬ B q) (hS : va_S A H0 H1 locs1) : wy_H G L f A H0 H1 locs1 := by
  refine ⟨hw.1.kept (fun k q hq => ?_), hw.2.1, hS⟩
  have := List.mem_of_getElem? hq
  simp only [va_pl, List.mem_map] at this
  obtain ⟨a, ha, rfl⟩ := this
  exact hk a (hw.lt ha) (hB a ha)
section WLW
variable {p : Program} {l : Launch} {e : Env} {R : Room} {s : State} {m : MethodId} {args : Array Value} {below : List Frame} {meth : Method} {c : Code} {H : Heap} {locs : List Loc} {cells slots : Nat} {Q : State → Prop}
variable {pc : Nat} {ls : Array Slot} {rest st0 : List Value} {A : Nat → Prop} {G : wy_G} {L Lm : List Nat} {f fm : Nat → va_E} {oo od : Nat} {fo : Nat → Int64} {fd : Nat → UInt64}
theorem wL_preO {As : List Value} (hK : wy_K G s) (hE : wt_E A s) (hZ : wl_E G A s) (hN : wc_N s) (h : wL G A s.heap H locs L f Lm fm oo fo od fd) (hA : ∀ q, s.heap.size ≤ q → A q) : PreS s H (va_Pc As (wo_P G L f oo H.size)) As := by
  obtain ⟨hw, -, -, h1, -, -, h4, -, h6, -, h8, -⟩ := h
  refine ⟨fun a U g mk q => ?_, fun U hU hW => ⟨rfl, wy_toW hK hw hU hW, hE.at hw.2.2 hU hW (wL.subO hw hA h4), hZ.at hw.2.2 hU hW (wL.subO hw hA h4), hN.moved hW.alike, h1, h6, fo, by rw [hU]; exact h8⟩⟩
  obtain ⟨q0, ⟨q1, qP, qK, qD⟩, qE, qZ, qN, r⟩ := q
  exact ⟨q0, ⟨q1, qP, wy_K.moved (u := U) (U := U.calling g mk a) (Vm.Alike.refl U.vm) qK, qD⟩, qE.calling, qZ.calling, wc_N.moved (u := U) (U := U.calling g mk a) (Vm.Alike.refl U.vm) qN, r⟩
theorem wL_preD {As : List Value} (hK : wy_K G s) (hE : wt_E A s) (hZ : wl_E G A s) (hN : wc_N s) (h : wL G A s.heap H locs L f Lm fm oo fo od fd) (hA : ∀ q, s.heap.size ≤ q → A q) : PreS s H (va_Pc As (wd_P G L f od H.size)) As := by
  obtain ⟨hw, -, -, -, h1, -, -, h4, -, h6, -, h8⟩ := h
  refine ⟨fun a U g mk q => ?_, fun U hU hW => ⟨rfl, wy_toW hK hw hU hW, hE.at hw.2.2 hU hW (wL.subO hw hA h4), hZ.at hw.2.2 hU hW (wL.subO hw hA h4), hN.moved hW.alike, h1, h6, fd, by rw [hU]; exact h8⟩⟩
  obtain ⟨q0, ⟨q1, qP, qK, qD⟩, qE, qZ, qN, r⟩ := q
  exact ⟨q0, ⟨q1, qP, wy_K.moved (u := U) (U := U.calling g mk a) (Vm.Alike.refl U.vm) qK, qD⟩, qE.calling, qZ.calling, wc_N.moved (u := U) (U := U.calling g mk a) (Vm.Alike.refl U.vm) qN, r⟩
/-- the law's call of a wrapper -/
theorem wL_callO {mc ms : Nat} {av : Array Value} {post : Int32 → List Nat → (Nat → va_E) → Int64 → Prop} (hr : vx_Run p l e R s m args below meth c H locs cells slots mc ms (F0 m pc ls st0) rest (wo_Q G L oo H.size post av) (fun _ _ _ => False) (wy_A (L ++ [oo]) H.size)) (h : wL G A s.heap H locs L f Lm fm oo fo od fd) (hA : ∀ q, s.heap.size ≤ q → A q)
    (kk : ∀ (C : Int32) (L' : List Nat) (f' : Nat → va_E) (fo' : Nat → Int64) (H1 : Heap) (locs1 : List Loc), post C L' f' (fo' 0) → wL G A s.heap H1 locs1 L' f' Lm fm oo fo' od fd → W p l e R s m args below meth c H1 locs1 (cells + mc) (slots + ms) Q (F0 m (pc + 3) ls (.int C :: rest))) : W p l e R s m args below meth c H locs cells slots Q (F0 m pc ls st0) := by
  obtain ⟨hw, hm, hd, h1, h2, h3, h4, h5, h6, h7, h8, h9⟩ := h
  have hsub := wL.subO hw hA h4
  have hB : ∀ q, q < H.size → q ∉ L → q ≠ oo → ¬ wy_A (L ++ [oo]) H.size q := fun q a b c z => z.elim (fun z => (List.mem_append.mp z).elim b (fun z => c (List.mem_singleton.mp z))) (fun z => absurd a (by omega))
  intro T hT X
  rcases hr T hT X with ⟨v, st₀, t, T', Ls, h0, X', hL, e1, e2, ⟨⟨C, L', f', fo', hv, hp, hPt, hDt, hoo', hO'⟩, hF⟩, st⟩ | ⟨q, st₀, t, T', Ls, E, ce, h0, X', hL, e1, e2, hF, -⟩
  · cases hv
    obtain ⟨k1, k2, k3⟩ := vx_keep h0 e1 hw.2.2 (fun q _ h => hsub q h) hsub hL hF
    have hL' : ∀ q, q < H.size → q ∉ L → q ≠ oo → q ∉ L' := fun q a b c z => by
      obtain ⟨k, hk⟩ := va_pl_get (X := []) (f := f') z
      exact hB q a b c (hDt.2 k _ hk)
    obtain ⟨t2, a1, b1⟩ := kk C L' f' fo' T'.heap (locs ++ Ls) hp ⟨⟨by rw [e1]; exact hPt, hDt.weaken (fun _ q _ h => hsub q.1 h), k3⟩, hm.keep k2 (fun q hq => hB q (hm.lt hq) (hd q hq).1 (hd q hq).2.1) k3, fun q hq => ⟨hL' q (hm.lt hq) (hd q hq).1 (hd q hq).2.1, (hd q hq).2⟩, hoo', hL' od h7 h2 (fun z => h3 z.symm), h3, h4, h5, Nat.lt_of_lt_of_le h6 k1, Nat.lt_of_lt_of_le h7 k1, by rw [e1]; exact hO', (show T'.heap[od]? = some _ from (k2 od h7 (hB od h7 h2 (fun z => h3 z.symm))).trans h9)⟩ T' rfl X'
    exact ⟨t2, st t2 a1, b1⟩
  · exact hF.elim
theorem wL_callD {mc ms : Nat} {av : Array Value} {post : Int32 → List Nat → (Nat → va_E) → UInt64 → Prop} (hr : vx_Run p l e R s m args below meth c H locs cells slots mc ms (F0 m pc ls st0) rest (wd_Q G L od H.size post av) (fun _ _ _ => False) (wy_A (L ++ [od]) H.size)) (h : wL G A s.heap H locs L f Lm fm oo fo od fd) (hA : ∀ q, s.heap.size ≤ q → A q)
    (kk : ∀ (C : Int32) (L' : List Nat) (f' : Nat → va_E) (fd' : Nat → UInt64) (H1 : Heap) (locs1 : List Loc), post C L' f' (fd' 0) → wL G A s.heap H1 locs1 L' f' Lm fm oo fo od fd' → W p l e R s m args below meth c H1 locs1 (cells + mc) (slots + ms) Q (F0 m (pc + 3) ls (.int C :: rest))) : W p l e R s m args below meth c H locs cells slots Q (F0 m pc ls st0) := by
  obtain ⟨hw, hm, hd, h1, h2, h3, h4, h5, h6, h7, h8, h9⟩ := h
  have hsub := wL.subO hw hA h5
  have hB : ∀ q, q < H.size → q ∉ L → q ≠ od → ¬ wy_A (L ++ [od]) H.size q := fun q a b c z => z.elim (fun z => (List.mem_append.mp z).elim b (fun z => c (List.mem_singleton.mp z))) (fun z => absurd a (by omega))
  intro T hT X
  rcases hr T hT X with ⟨v, st₀, t, T', Ls, h0, X', hL, e1, e2, ⟨⟨C, L', f', fd', hv, hp, hPt, hDt, hod', hO'⟩, hF⟩, st⟩ | ⟨q, st₀, t, T', Ls, E, ce, h0, X', hL, e1, e2, hF, -⟩
  · cases hv
    obtain ⟨k1, k2, k3⟩ := vx_keep h0 e1 hw.2.2 (fun q _ h => hsub q h) hsub hL hF
    have hL' : ∀ q, q < H.size → q ∉ L → q ≠ od → q ∉ L' := fun q a b c z => by
      obtain ⟨k, hk⟩ := va_pl_get (X := []) (f := f') z
      exact hB q a b c (hDt.2 k _ hk)
    obtain ⟨t2, a1, b1⟩ := kk C L' f' fd' T'.heap (locs ++ Ls) hp ⟨⟨by rw [e1]; exact hPt, hDt.weaken (fun _ q _ h => hsub q.1 h), k3⟩, hm.keep k2 (fun q hq => hB q (hm.lt hq) (hd q hq).1 (hd q hq).2.2) k3, fun q hq => ⟨hL' q (hm.lt hq) (hd q hq).1 (hd q hq).2.2, (hd q hq).2⟩, hL' oo h6 h1 h3, hod', h3, h4, h5, Nat.lt_of_lt_of_le h6 k1, Nat.lt_of_lt_of_le h7 k1, (show T'.heap[oo]? = some _ from (k2 oo h6 (hB oo h6 h1 h3)).trans h8), by rw [e1]; exact hO'⟩ T' rfl X'
    exact ⟨t2, st t2 a1, b1⟩
  · exact hF.elim
/-- the law's call of the reference -/
theorem wL_callM {mc ms : Nat} {av : Array Value} {post : Option Value → List Nat → (Nat → va_E) → Prop} (hr : va_Run p l e R s m args below meth c H locs cells slots mc ms (F0 m pc ls st0) rest (wy_Q G post (wy_A Lm H.size) av) (wy_A Lm H.size)) (h : wL G A s.heap H locs L f Lm fm oo fo od fd) (hA : ∀ q, s.heap.size ≤ q → A q) (hpL : ∀ r L' f', post r L' f' → L' = Lm)
    (kk : ∀ (r : Option Value) (fm' : Nat → va_E) (H1 : Heap) (locs1 : List Loc), post r Lm fm' → wL G A s.heap H1 locs1 L f Lm fm' oo fo od fd → W p l e R s m args below meth c H1 locs1 (cells + mc) (slots + ms) Q (F0 m (pc + 3) ls (r.toList ++ rest))) : W p l e R s m args below meth c H locs cells slots Q (F0 m pc ls st0) := by
  obtain ⟨hw, hm, hd, h1, h2, h3, h4, h5, h6, h7, h8, h9⟩ := h
  have hsub := hm.sub hA
  have hB : ∀ q, q < H.size → q ∉ Lm → ¬ wy_A Lm H.size q := fun q a b z => z.elim b (fun z => absurd a (by omega))
  intro T hT X
  obtain ⟨v, st₀, t, T', Ls, h0, X', hL, e1, e2, ⟨⟨r, L', f', hv, hp, hPt, hDt⟩, hF⟩, st⟩ := hr T hT X
  cases hv
  obtain rfl := (hpL _ _ _ hp).symm
  obtain ⟨k1, k2, k3⟩ := vx_keep h0 e1 hm.2.2 (fun q _ h => hsub q h) hsub hL hF
  obtain ⟨t2, a1, b1⟩ := kk v f' T'.heap (locs ++ Ls) hp ⟨hw.keep k2 (fun q hq => hB q (hw.lt hq) (fun z => (hd q z).1 hq)) k3, ⟨by rw [e1]; exact hPt, hDt.weaken (fun _ q _ h => hsub q.1 h), k3⟩, hd, h1, h2, h3, h4, h5, Nat.lt_of_lt_of_le h6 k1, Nat.lt_of_lt_of_le h7 k1, (show T'.heap[oo]? = some _ from (k2 oo h6 (hB oo h6 (fun z => (hd oo z).2.1 rfl))).trans h8), (show T'.heap[od]? = some _ from (k2 od h7 (hB od h7 (fun z => (hd od z).2.2 rfl))).trans h9)⟩ T' rfl X'
  exact ⟨t2, st t2 a1, b1⟩
end WLW
