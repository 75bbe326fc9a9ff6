/-! what is made new -/
section WYN
variable {p : Program} {l : Launch} {e : Env} {R : Room} {s : State} {m : MethodId} {args : Array Value} {below : List Frame} {meth : Method} {c : Code} {H : Heap} {locs : List Loc} {cells slots : Nat} {Q : State → Prop}
variable {cc : ByteArray} {pc : Nat} {ls : Array Slot} {rest st0 : List Value} {A : Nat → Prop} {a : Nat} {H0 : Heap} {G : wy_G} {L : List Nat} {f : Nat → va_E}
theorem wy_grow {q : Nat} {x : va_E} {H1 : Heap} (hD0 : va_D A (va_pl L f)) (hP : va_P G.1 vwCl (va_pl L f ++ [(q, x)]) H1) (hD : va_D A (va_pl L f ++ [(q, x)])) (hS : va_S A H0 H1 locs) : q ∉ L ∧ wy_c (L ++ [q]) (va_up f q x) q x ∧ wy_H G (L ++ [q]) (va_up f q x) A H0 H1 locs := by
  have hq : q ∉ L := va_pl_fresh2 (X := []) hD
  refine ⟨hq, wy_c.new, ?_⟩
  rw [va_pl_push hq] at hP hD
  exact ⟨hP, hD, hS⟩
theorem wy_newI (hexec : p.tables.exec = Jvm.exec) (hb : c.code = cc) (harr : (Cond.arrayClass .int).before args s = true) (hK : wy_K G s) (hw : wy_H G L f A H0 H locs) (hA : ∀ q, H0.size ≤ q → A q) {x : Int32} (n : Nat) (hx : x = nI n) (hn : n ≤ 1000) (hcells : cells + 1 ≤ R.cells) (hslots : slots + n ≤ R.slots) (hdg : decode cc pc = .ok (.newarray .int, 2))
    (kk : ∀ (q : Nat) (H1 : Heap) (f1 : Nat → va_E), q ∉ L → wy_c (L ++ [q]) f1 q (.inl (G.2 0, n, .inl (fun _ => 0))) → (∀ b, b ≠ q → f1 b = f b) → wy_H G (L ++ [q]) f1 A H0 H1 locs → W p l e R s m args below meth c H1 locs (cells + 1) (slots + n) Q (F0 m (pc + 2) ls (.ref q :: rest))) : W p l e R s m args below meth c H locs cells slots Q (F0 m pc ls (.int x :: rest)) := by
  obtain ⟨hP, hD, hS⟩ := hw
  subst hx
  refine va_newa (atype := .int) (ty := .int) (N' := n) (a0 := (n, .inl (fun _ => 0))) hexec hb harr rfl hK hP hD hS hA (fun cA => rfl) (nI_pos (by omega)) (nI_clamp (by omega)) (by show n * 4 ≤ 536870912; omega) hcells hslots hdg (fun q cA H1 hK1 hP1 hD1 hS1 => ?_)
  have e : cA = G.2 0 := by
    have h1 := (hK1.2 5 (cA, .int) rfl).2
    have h0 := (hK.2 0 (G.2 0, .int) rfl).2
    exact Option.some.inj (h1.symm.trans h0)
  subst e
  obtain ⟨hq, h2, h3⟩ := wy_grow hD hP1 hD1 hS1
  exact kk q H1 _ hq h2 (fun b hb => va_up_ne _ _ hb) h3
theorem wy_new (hexec : p.tables.exec = Jvm.exec) (hb : c.code = cc) {own C : String} {T : u_T} {N ci index : Nat} {Ts : List Cond} (hts : ∀ w ∈ Ts, w.before args s = true) (hin : ∀ w ∈ u_ws C T N, w ∈ Ts) (ty : Nat → FieldType) (hty : ∀ k, k < N → parseFieldDescriptor (T k).2.2.1 = some (ty k)) (hown : s.vm.findClass own = some m.cls) (hcl : (Cond.classLink own index C).before args s = true) (hinst : (Cond.instantiable C N).before args s = true) (hini : (Cond.initialized C).before args s = true)
    (hK : wy_K G s) (hw : wy_H G L f A H0 H locs) (hA : ∀ q, H0.size ≤ q → A q) (hc : vwCl[ci]? = some (C, T, N)) {fs : List Value} (hfs : ∀ j, j < N → defaultValue (ty j) = vp_V fs j) (hcells : cells + 1 ≤ R.cells) (hslots : slots + N ≤ R.slots) (hdg : decode cc pc = .ok (.new index, 3))
    (kk : ∀ (q : Nat) (H1 : Heap) (f1 : Nat → va_E), q ∉ L → wy_c (L ++ [q]) f1 q (.inr (ci, fs)) → (∀ b, b ≠ q → f1 b = f b) → wy_H G (L ++ [q]) f1 A H0 H1 locs → W p l e R s m args below meth c H1 locs (cells + 1) (slots + N) Q (F0 m (pc + 3) ls (.ref q :: rest))) : W p l e R s m args below meth c H locs cells slots Q (F0 m pc ls rest) := by
  obtain ⟨hP, hD, hS⟩ := hw
  refine va_new hexec hb hts hin ty hty hown hcl hinst hini hK hP hD hS hA hc hfs hcells hslots hdg (fun q H1 hP1 hD1 hS1 => ?_)
  obtain ⟨hq, h2, h3⟩ := wy_grow hD hP1 hD1 hS1
  exact kk q H1 _ hq h2 (fun b hb => va_up_ne _ _ hb) h3
theorem wy_c.app2 {f1 : Nat → va_E} {q b : Nat} {x : va_E} (h : wy_c L f b x) (hq : q ∉ L) (hn : ∀ z, z ≠ q → f1 z = f z) : wy_c (L ++ [q]) f1 b x := ⟨List.mem_append_left _ h.1, (hn b (fun z => hq (z ▸ h.1))).trans h.2⟩
theorem wy_c.neq {q b : Nat} {x : va_E} (h : wy_c L f b x) (hq : q ∉ L) : b ≠ q := fun z => hq (z ▸ h.1)
end WYN
/-! the closing of a week -/
def dueW (rr : Nat → wr_V) (n : Nat) (po : Nat → Int32) (wk d : Nat) : Int32 := payB rr n (nI d) (wk + 1) - po d
def poW (rr : Nat → wr_V) (n : Nat) (po : Nat → Int32) (wk i : Nat) : Nat → Int32 := fun d => if d < i ∧ 0 < dueW rr n po wk d then po d + dueW rr n po wk d else po d
def totW (rr : Nat → wr_V) (n : Nat) (po : Nat → Int32) (wk i : Nat) : Int32 := bx_sum (fun d => if 0 < dueW rr n po wk d then dueW rr n po wk d else 0) i
theorem poW_0 (rr : Nat → wr_V) (n : Nat) (po : Nat → Int32) (wk : Nat) : poW rr n po wk 0 = po := by funext d; simp [poW]
theorem poW_i (rr : Nat → wr_V) (n : Nat) (po : Nat → Int32) (wk i : Nat) : poW rr n po wk i i = po i := by simp [poW]
theorem poW_t (rr : Nat → wr_V) (n : Nat) (po : Nat → Int32) (wk i : Nat) {z : Int32} (hz : z = po i + (if 0 < dueW rr n po wk i then dueW rr n po wk i else 0)) (j : Nat) : (if j = i then z else poW rr n po wk i j) = poW rr n po wk (i + 1) j := by
  by_cases e : j = i
  · subst e
    rw [if_pos rfl, hz]
    simp only [poW]
    by_cases h : 0 < dueW rr n po wk j
    · rw [if_pos h, if_pos ⟨by omega, h⟩]
    · rw [if_neg h, if_neg (fun z => h z.2), Int32.add_zero]
  · rw [if_neg e]
    simp only [poW]
    have : (j < i + 1) = (j < i) := propext ⟨fun q => by omega, fun q => by omega⟩
    simp only [this]
theorem wm_poW {rr : Nat → wr_V} {n : Nat} {po : Nat → Int32} {wk i : Nat} {g0 g1 g2 g3 g4 g5 g6 g7 g8 g9 : Nat → Int32} {z : Int32} (hm : wm_r (poW rr n po wk i) rr g0 g1 g2 g3 g4 g5 g6 g7 g8 g9) (hz : z = po i + (if 0 < dueW rr n po wk i then dueW rr n po wk i else 0)) : wm_r (poW rr n po wk (i + 1)) rr g0 g1 g2 g3 g4 g5 g6 g7 g8 (upd g9 i z) := by
  refine ⟨hm.1, fun d hd => ?_⟩
  rw [← poW_t rr n po wk i hz d]
  simp only [upd]
  by_cases e : d = i
  · rw [if_pos e, if_pos e]
  · rw [if_neg e, if_neg e]; exact hm.2 d hd
