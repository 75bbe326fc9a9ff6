theorem wx_S.own {G : wy_G} {L : List Nat} {f f' : Nat → va_E} {hx hl : Nat} {ra ar : Nat → Nat} {n : Nat} {km mn km' mn' : Int32} {wk wk' : Nat} {po : Nat → Int32} {R : Nat → wr_V} (h : wx_S G L f hx hl ra ar n km mn wk po R) (h1 : wy_c L f' hx (.inr (2, [.ref hl, .ref (ar 0), .int km', .int mn', .int (nI wk')]))) (hf : ∀ z, z ≠ hx → f' z = f z) (hwk : wk' ≤ 20) : wx_S G L f' hx hl ra ar n km' mn' wk' po R := by
  obtain ⟨g1, h2, h3, h4, h5, h6, h7, h8⟩ := h
  have key : ∀ (a : Nat) (e : va_E), f a = e → e ≠ f hx → f' a = e := fun a e q n1 => by
    rw [hf a (fun z => n1 (by rw [← q, z])), q]
  have hx2 := g1.2
  refine ⟨h1, ?_, ⟨h3.1, key _ _ h3.2 (by rw [hx2]; simp)⟩, ?_, h5, hwk, h7, h8⟩
  · refine h2.kept (fun _ q => q) ?_ (fun a cap g q => (key _ _ q (by rw [hx2]; simp)).trans q.symm)
    obtain ⟨md, he, cap, g, a1, -⟩ := h2
    exact (key _ _ a1.2 (by rw [hx2]; simp)).trans a1.2.symm
  · intro j hj
    have hj' := h4 j hj
    exact hj'.kept (fun _ q => q) ((key _ _ hj'.1.2 (by rw [hx2]; simp)).trans hj'.1.2.symm) ((key _ _ hj'.2.1.2 (by rw [hx2]; simp)).trans hj'.2.1.2.symm) ((key _ _ hj'.2.2.1.2 (by rw [hx2]; simp)).trans hj'.2.2.1.2.symm)
theorem wx_S.paid {G : wy_G} {L : List Nat} {f f' : Nat → va_E} {hx hl : Nat} {ra ar : Nat → Nat} {n : Nat} {km mn : Int32} {wk : Nat} {po po' : Nat → Int32} {R : Nat → wr_V} (h : wx_S G L f hx hl ra ar n km mn wk po R) (h1 : wy_c L f' (ar 0) (.inl (G.2 0, 5, .inl po'))) (hf : ∀ z, z ≠ ar 0 → f' z = f z) : wx_S G L f' hx hl ra ar n km mn wk po' R := by
  obtain ⟨g1, h2, h3, h4, h5, h6, h7, h8⟩ := h
  have key : ∀ (a : Nat) (e : va_E), f a = e → e ≠ f (ar 0) → f' a = e := fun a e q n1 => by
    rw [hf a (fun z => n1 (by rw [← q, z])), q]
  have hx2 := h3.2
  refine ⟨⟨g1.1, key _ _ g1.2 (by rw [hx2]; simp)⟩, ?_, h1, ?_, h5, h6, h7, h8⟩
  · refine h2.kept (fun _ q => q) ?_ (fun a cap g q => (key _ _ q (by rw [hx2]; simp)).trans q.symm)
    obtain ⟨md, he, cap, g, a1, -⟩ := h2
    exact (key _ _ a1.2 (by rw [hx2]; simp)).trans a1.2.symm
  · intro j hj
    have hj' := h4 j hj
    exact hj'.kept (fun _ q => q) ((key _ _ hj'.1.2 (by rw [hx2]; simp)).trans hj'.1.2.symm) (hf _ (fun z => by have := h8 _ _ (by omega) (by omega) z; omega)) (hf _ (fun z => by have := h8 _ _ (by omega) (by omega) z; omega))
theorem poW_s (rr : Nat → wr_V) (n : Nat) (po : Nat → Int32) (wk i : Nat) (h : ¬ 0 < dueW rr n po wk i) : poW rr n po wk (i + 1) = poW rr n po wk i := by
  funext j
  rw [← poW_t rr n po wk i (z := po i) (by rw [if_neg h, Int32.add_zero]) j]
  by_cases e : j = i
  · subst e; rw [if_pos rfl, poW_i]
  · rw [if_neg e]
theorem poW_u (rr : Nat → wr_V) (n : Nat) (po : Nat → Int32) (wk i : Nat) {z : Int32} (hz : z = po i + (if 0 < dueW rr n po wk i then dueW rr n po wk i else 0)) : upd (poW rr n po wk i) i z = poW rr n po wk (i + 1) := funext (fun j => poW_t rr n po wk i hz j)
section WZ
variable {p : Program} {l : Launch} {e : Env} {R : Room} {s : State} {m : MethodId} {args : Array Value} {below : List Frame} {meth : Method} {c : Code} {H : Heap} {locs : List Loc} {cells slots : Nat} {Q : State → Prop}
variable {cc : ByteArray} {pc : Nat} {ls : Array Slot} {G : wy_G} {L : List Nat} {f : Nat → va_E}
theorem wy_fW {v : UInt32} {L0 : List Nat} {sz mc ms : Nat} {post : Option Value → List Nat → (Nat → va_E) → Prop} (hexec : p.tables.exec = Jvm.exec) (hb : c.code = cc) (hr : meth.sig.returnType = some .float) (hlocks : meth.locks = false) (hdg : decode cc pc = .ok (.freturn, 1)) (hw : wy_H G L f (wy_A L0 sz) s.heap H locs) (hc : cells ≤ mc) (hs : slots ≤ ms) (h : post (some (.float v)) L f) : W p l e R s m args below meth c H locs cells slots (MQ below (wy_Q G post (wy_A L0 sz)) args s mc ms (wy_A L0 sz)) (F0 m pc ls [.float v]) :=
  W.widen hc hs (W.fret hexec hb hr (fun t ht hW => ⟨⟨some (.float v), L, f, rfl, h, by rw [ht]; exact hw.1, hw.2.1⟩, hw.2.2.F ht⟩) hw.2.2.2.2 hdg hlocks)
end WZ
