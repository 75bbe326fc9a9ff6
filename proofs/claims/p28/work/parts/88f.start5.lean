/-! an object made beside a world, and a call in a world of its own, with all else kept -/
section WYK
variable {p : Program} {l : Launch} {e : Env} {R : Room} {s : State} {m : MethodId} {args : Array Value} {below : List Frame} {meth : Method} {c : Code} {H : Heap} {locs : List Loc} {cells slots : Nat} {Q : State → Prop}
variable {cc : ByteArray} {pc : Nat} {ls : Array Slot} {rest st0 : List Value} {A : Nat → Prop} {H0 : Heap} {G : wy_G} {L : List Nat} {f : Nat → va_E}
theorem va_S.more {H1 : Heap} (h : va_S A H0 H locs) (hz : H1.size = H.size + 1) (hk : ∀ q : Nat, q < H.size → H1[q]? = H[q]?) : va_S A H0 H1 locs :=
  ⟨Nat.le_trans h.1 (by omega), fun x h1 h2 => (hk x (Nat.lt_of_lt_of_le h1 h.1)).trans (h.2.1 x h1 h2), h.2.2⟩
theorem wy_newS (hexec : p.tables.exec = Jvm.exec) (hb : c.code = cc) {own C : String} {T : u_T} {N ci index : Nat} {Ts : List Cond} (hts : ∀ w ∈ Ts, w.before args s = true) (hin : ∀ w ∈ u_ws C T N, w ∈ Ts) (ty : Nat → FieldType) (hty : ∀ k, k < N → parseFieldDescriptor (T k).2.2.1 = some (ty k)) (hown : s.vm.findClass own = some m.cls) (hcl : (Cond.classLink own index C).before args s = true) (hinst : (Cond.instantiable C N).before args s = true) (hini : (Cond.initialized C).before args s = true)
    (hK : wy_K G s) (hw : wy_H G L f A H0 H locs) (hA : ∀ q, H0.size ≤ q → A q) (hc : vwCl[ci]? = some (C, T, N)) {fs : List Value} (hfs : ∀ j, j < N → defaultValue (ty j) = vp_V fs j) (hcells : cells + 1 ≤ R.cells) (hslots : slots + N ≤ R.slots) (hdg : decode cc pc = .ok (.new index, 3))
    (kk : ∀ (q : Nat) (H1 : Heap), q ∉ L → wy_H G L f A H0 H1 locs → wy_H G [q] (fun _ => .inr (ci, fs)) A H0 H1 locs → W p l e R s m args below meth c H1 locs (cells + 1) (slots + N) Q (F0 m (pc + 3) ls (.ref q :: rest))) : W p l e R s m args below meth c H locs cells slots Q (F0 m pc ls rest) := by
  obtain ⟨hP, hD, hS⟩ := hw
  refine va_new hexec hb hts hin ty hty hown hcl hinst hini hK hP hD hS hA hc hfs hcells hslots hdg (fun q H1 hP1 hD1 hS1 => ?_)
  have hq : q ∉ L := va_pl_fresh2 (X := []) hD1
  have hend : (va_pl L f ++ [(q, (.inr (ci, fs) : va_E))])[(va_pl L f).length]? = some (q, .inr (ci, fs)) := by
    rw [List.getElem?_append_right (Nat.le_refl _), Nat.sub_self]; rfl
  have hone : ∀ (k : Nat) (x : Nat × va_E), (va_pl [q] (fun _ => (.inr (ci, fs) : va_E)))[k]? = some x → k = 0 ∧ x = (q, .inr (ci, fs)) := fun k x h => by
    have h : [(q, (.inr (ci, fs) : va_E))][k]? = some x := h
    have hz : k < 1 := (List.getElem?_eq_some_iff.mp h).1
    obtain rfl : k = 0 := by omega
    exact ⟨rfl, (Option.some.inj h).symm⟩
  refine kk q H1 hq ⟨fun k x h => hP1 k x ?_, hD, hS1⟩ ⟨fun k x h => ?_, ⟨fun i j x y hi hj _ => ?_, fun k x h => ?_⟩, hS1⟩
  · rw [List.getElem?_append_left (List.getElem?_eq_some_iff.mp h).1]; exact h
  · rw [(hone k x h).2]; exact hP1 _ _ hend
  · rw [(hone i x hi).1, (hone j y hj).1]
  · rw [(hone k x h).2]; exact hD1.2 _ _ hend
theorem wy_callK {mc ms : Nat} {av : Array Value} {post : Option Value → List Nat → (Nat → va_E) → Prop} (hr : va_Run p l e R s m args below meth c H locs cells slots mc ms (F0 m pc ls st0) rest (wy_Q G post (wy_A L H.size) av) (wy_A L H.size)) (hw : wy_H G L f A s.heap H locs) (hA : ∀ q, s.heap.size ≤ q → A q)
    (kk : ∀ (r : Option Value) (L' : List Nat) (f' : Nat → va_E) (H1 : Heap) (locs1 : List Loc), post r L' f' → wy_H G L' f' A s.heap H1 locs1 → (∀ q, q < H.size → q ∉ L → H1[q]? = H[q]? ∧ q ∉ L') → W p l e R s m args below meth c H1 locs1 (cells + mc) (slots + ms) Q (F0 m (pc + 3) ls (r.toList ++ rest))) : W p l e R s m args below meth c H locs cells slots Q (F0 m pc ls st0) := by
  have hsub := hw.sub hA
  have hB : ∀ q, q < H.size → q ∉ L → ¬ wy_A L H.size q := fun q a b z => z.elim b (fun z => absurd a (by omega))
  intro T hT X
  obtain ⟨v, st₀, t, T', Ls, h0, X', hL, e1, e2, ⟨⟨r, L', f', hv, hp, hPt, hDt⟩, hF⟩, st⟩ := hr T hT X
  cases hv
  obtain ⟨k1, k2, k3⟩ := vx_keep h0 e1 hw.2.2 (fun q _ h => hsub q h) hsub hL hF
  obtain ⟨t2, a1, b1⟩ := kk v L' f' T'.heap (locs ++ Ls) hp ⟨by rw [e1]; exact hPt, hDt.weaken (fun _ q _ h => hsub q.1 h), k3⟩ (fun q a b => ⟨k2 q a (hB q a b), fun z => by
    obtain ⟨k, hk⟩ := va_pl_get (X := []) (f := f') z
    exact hB q a b (hDt.2 k _ hk)⟩) T' rfl X'
  exact ⟨t2, st t2 a1, b1⟩
end WYK
