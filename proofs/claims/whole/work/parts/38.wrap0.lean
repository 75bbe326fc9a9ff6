/-! THE LAW'S CALLS OF THE CLASS: the purse's world, and beside it the array that the answer goes into -/
def wc_N (U : State) : Prop := va_Nc eS eI U ∧ va_Nc eA eI U ∧ va_Nc eS eA U
theorem wc_N.moved {u U : State} (hvm : u.vm.Alike U.vm) (h : wc_N u) : wc_N U := ⟨h.1.moved hvm, h.2.1.moved hvm, h.2.2.moved hvm⟩
/-- the answer's cell: long[1] -/
def wo_e (G : wy_G) (fo : Nat → Int64) : va_E := .inl (G.2 3, 1, .inr (.inl fo))
def wo_c (G : wy_G) (oo : Nat) (fo : Nat → Int64) (H : Heap) : Prop := va_at G.1 vwCl (oo, wo_e G fo) H
def wo_P (G : wy_G) (L : List Nat) (f : Nat → va_E) (oo sz : Nat) (U : State) : Prop := wy_W G L f sz U ∧ wt_E (wy_A (L ++ [oo]) sz) U ∧ wl_E G (wy_A (L ++ [oo]) sz) U ∧ wc_N U ∧ oo ∉ L ∧ oo < sz ∧ ∃ fo, wo_c G oo fo U.heap
def wo_Q (G : wy_G) (L : List Nat) (oo sz : Nat) (post : Int32 → List Nat → (Nat → va_E) → Int64 → Prop) : Array Value → State → Outcome → State → Prop := fun _ st oc t =>
  (∃ (C : Int32) (L' : List Nat) (f' : Nat → va_E) (fo : Nat → Int64), oc = .returned (some (.int C)) ∧ post C L' f' (fo 0) ∧ va_P G.1 vwCl (va_pl L' f') t.heap ∧ va_D (wy_A (L ++ [oo]) sz) (va_pl L' f') ∧ oo ∉ L' ∧ wo_c G oo fo t.heap) ∧ va_F (wy_A (L ++ [oo]) sz) st t
theorem wo_A {L : List Nat} {oo sz : Nat} : ∀ q, wy_A L sz q → wy_A (L ++ [oo]) sz q := fun q h => h.imp (fun z => List.mem_append_left _ z) id
theorem wo_start {G : wy_G} {L : List Nat} {f : Nat → va_E} {oo sz : Nat} {U : State} (h : wo_P G L f oo sz U) : wy_H G L f (wy_A (L ++ [oo]) sz) U.heap U.heap [] ∧ wy_K G U ∧ (∀ q, U.heap.size ≤ q → wy_A (L ++ [oo]) sz q) ∧ wy_A (L ++ [oo]) sz oo := by
  obtain ⟨hw, hK, hA⟩ := wy_start h.1
  exact ⟨⟨hw.1, hw.2.1.weaken (fun _ q _ h => wo_A _ h), va_S.rf⟩, hK, fun q hq => wo_A _ (hA q hq), Or.inl (List.mem_append_right _ List.mem_cons_self)⟩
theorem wo_join {G : wy_G} {L : List Nat} {f : Nat → va_E} {A : Nat → Prop} {H0 H : Heap} {locs : List Loc} {oo : Nat} {x : va_E} (hw : wy_H G L f A H0 H locs) (hO : va_at G.1 vwCl (oo, x) H) (hoo : oo ∉ L) (hA : A oo) : wy_H G (L ++ [oo]) (va_up f oo x) A H0 H locs := by
  obtain ⟨hP, hD, hS⟩ := hw
  have e1 : ∀ (k : Nat) (q : Nat × va_E), [(oo, x)][k]? = some q → q = (oo, x) := fun k q hk => List.mem_singleton.mp (List.mem_of_getElem? hk)
  refine ⟨?_, ?_, hS⟩
  · rw [← va_pl_push hoo]
    exact hP.app (fun k q hk => by rw [e1 k q hk]; exact hO)
  · rw [← va_pl_push hoo]
    refine hD.app ⟨fun i j p q hi hj _ => ?_, fun k q hk => by rw [e1 k q hk]; exact hA⟩ (fun i j p q hi hj => ?_)
    · have h1 := (List.getElem?_eq_some_iff.mp hi).1
      have h2 := (List.getElem?_eq_some_iff.mp hj).1
      simp only [List.length_singleton] at h1 h2
      omega
    · rw [e1 j q hj]
      have := List.mem_of_getElem? hi
      simp only [va_pl, List.mem_map] at this
      obtain ⟨a, ha, rfl⟩ := this
      exact fun z => hoo ((show a = oo from z) ▸ ha)
theorem wo_split {G : wy_G} {L : List Nat} {f f1 : Nat → va_E} {A : Nat → Prop} {H0 H : Heap} {locs : List Loc} {oo : Nat} (hw : wy_H G (L ++ [oo]) f1 A H0 H locs) (hf : ∀ z, z ∈ L → f1 z = f z) : wy_H G L f A H0 H locs := by
  obtain ⟨hP, hD, hS⟩ := hw
  have e : va_pl (L ++ [oo]) f1 = va_pl L f ++ [(oo, f1 oo)] := by
    simp only [va_pl, List.map_append, List.map_cons, List.map_nil]
    congr 1
    apply List.map_congr_left
    intro b hb
    rw [hf b hb]
  rw [e] at hP hD
  have up : ∀ (k : Nat) (q : Nat × va_E), (va_pl L f)[k]? = some q → (va_pl L f ++ [(oo, f1 oo)])[k]? = some q := fun k q hk => by
    rw [List.getElem?_append_left (List.getElem?_eq_some_iff.mp hk).1]; exact hk
  exact ⟨fun k q hk => hP k q (up k q hk), ⟨fun i j p q hi hj => hD.1 i j p q (up i p hi) (up j q hj), fun k q hk => hD.2 k q (up k q hk)⟩, hS⟩
section WO
variable {p : Program} {l : Launch} {e : Env} {R : Room} {s : State} {m : MethodId} {args : Array Value} {below : List Frame} {meth : Method} {c : Code} {H : Heap} {locs : List Loc} {cells slots : Nat} {Q : State → Prop}
variable {cc : ByteArray} {pc : Nat} {ls : Array Slot} {rest st0 : List Value} {A : Nat → Prop} {G : wy_G} {L : List Nat} {f : Nat → va_E} {oo : Nat} {fo : Nat → Int64}
theorem wo_last (hexec : p.tables.exec = Jvm.exec) (hb : c.code = cc) (hK : wy_K G s) (hw : wy_H G L f A s.heap H locs) (hO : wo_c G oo fo H) (hoo : oo ∉ L) (hA : A oo) {x : Int64} (hdg : decode cc pc = .ok (.lastore, 1))
    (kk : ∀ (H1 : Heap) (locs1 : List Loc) (fo1 : Nat → Int64), fo1 0 = x → wo_c G oo fo1 H1 → wy_H G L f A s.heap H1 locs1 → W p l e R s m args below meth c H1 locs1 cells slots Q (F0 m (pc + 1) ls rest)) : W p l e R s m args below meth c H locs cells slots Q (F0 m pc ls (.long x :: .int 0 :: .ref oo :: rest)) := by
  have hj := wo_join hw hO hoo hA
  have he : wy_c (L ++ [oo]) (va_up f oo (wo_e G fo)) oo (.inl (G.2 3, 1, .inr (.inl fo))) := wy_c.new
  obtain ⟨q0, hq0, hq⟩ := wy_at he
  obtain ⟨hP, hD, hS⟩ := hj
  refine va_last hexec hb hK hP hD hS q0 3 hq rfl (show vp_in 0 1 by unfold vp_in; decide) hdg (fun H1 locs1 hP1 hD1 hS1 => ?_)
  have hset := va_pl_set (X := []) (e := .inl (G.2 3, 1, .inr (.inl (vp_updL fo (0 : Int32).toNatClampNeg x)))) hD he.1 hq0
  rw [List.nil_append, List.nil_append] at hset
  have hP1' := hP1
  rw [hset] at hP1 hD1
  refine kk H1 locs1 (vp_updL fo (0 : Int32).toNatClampNeg x) (by simp [vp_updL]) ?_ (wo_split ⟨hP1, hD1, hS1⟩ (fun z hz => ?_))
  · have hl := (List.getElem?_eq_some_iff.mp hq0).1
    exact hP1' q0 _ (List.getElem?_set_self hl)
  · have hn : z ≠ oo := fun q => hoo (q ▸ hz)
    rw [va_up_ne _ _ hn, va_up_ne _ _ hn]
theorem wo_call {mc ms : Nat} {av : Array Value} {post : Option Value → List Nat → (Nat → va_E) → Prop} {px : String → Prop} (hr : vx_Run p l e R s m args below meth c H locs cells slots mc ms (F0 m pc ls st0) rest (wy_Q G post (wy_A L H.size) av) (wt_X G px L f (wy_A L H.size)) (wy_A L H.size)) (hw : wy_H G L f A s.heap H locs) (hA : ∀ q, s.heap.size ≤ q → A q) (hoo : oo ∉ L) (hos : oo < H.size) (hO : wo_c G oo fo H)
    (kx : ∀ (E : String) (ce : Cell) (q : Addr) (H1 : Heap) (locs1 : List Loc), px E → wy_H G L f A s.heap H1 locs1 → wo_c G oo fo H1 → H1[q]? = some ce → ce.vm = .none → s.vm.findClass E = some ce.cls → vx_W p l e R s m args below meth c H1 locs1 (cells + mc) (slots + ms) Q (F0 m pc ls rest) q)
    (kk : ∀ (r : Option Value) (L' : List Nat) (f' : Nat → va_E) (H1 : Heap) (locs1 : List Loc), post r L' f' → wy_H G L' f' A s.heap H1 locs1 → oo ∉ L' → wo_c G oo fo H1 → W p l e R s m args below meth c H1 locs1 (cells + mc) (slots + ms) Q (F0 m (pc + 3) ls (r.toList ++ rest))) :
    W p l e R s m args below meth c H locs cells slots Q (F0 m pc ls st0) := by
  have hsub := hw.sub hA
  have hno : ¬ wy_A L H.size oo := fun z => z.elim hoo (fun q => absurd hos (by omega))
  obtain ⟨hP, hD, hS⟩ := hw
  intro T hT X
  rcases hr T hT X with ⟨v, st₀, t, T', Ls, h0, X', hL, e1, e2, ⟨⟨r, L', f', hv, hp, hPt, hDt⟩, hF⟩, st⟩ | ⟨q, st₀, t, T', Ls, E, ce, h0, X', hL, e1, e2, ⟨hp, hPt, hF⟩, hce, hcv, hcl, st⟩
  · cases hv
    obtain ⟨k1, k2, k3⟩ := vx_keep h0 e1 hS (fun q _ h => hsub q h) hsub hL hF
    have hoo' : oo ∉ L' := fun z => by
      obtain ⟨k, hk⟩ := va_pl_get (X := []) (f := f') z
      exact hno (hDt.2 k _ hk)
    obtain ⟨t2, a1, b1⟩ := kk v L' f' T'.heap (locs ++ Ls) hp ⟨by rw [e1]; exact hPt, hDt.weaken (fun _ q _ h => hsub q.1 h), k3⟩ hoo' ((show T'.heap[oo]? = some _ from (k2 oo hos hno).trans hO)) T' rfl X'
    exact ⟨t2, st t2 a1, b1⟩
  · obtain ⟨k1, k2, k3⟩ := vx_keep h0 e1 hS (fun q _ h => hsub q h) hsub hL hF
    obtain ⟨t2, a1, b1⟩ := kx E ce q T'.heap (locs ++ Ls) hp ⟨by rw [e1]; exact hPt, hD, k3⟩ ((show T'.heap[oo]? = some _ from (k2 oo hos hno).trans hO)) (by rw [e1]; exact hce) hcv hcl T' rfl X'
    exact ⟨t2, st.trans a1, b1⟩
theorem wo_ret {C : Int32} {L' : List Nat} {f' : Nat → va_E} {sz mc ms : Nat} {post : Int32 → List Nat → (Nat → va_E) → Int64 → Prop} {XC : String → State → State → Prop} (hexec : p.tables.exec = Jvm.exec) (hb : c.code = cc) (hr : meth.sig.returnType = some .int) (hlocks : meth.locks = false) (hdg : decode cc pc = .ok (.ireturn, 1)) (hw : wy_H G L' f' (wy_A (L ++ [oo]) sz) s.heap H locs) (hO : wo_c G oo fo H) (hoo : oo ∉ L') (hc : cells ≤ mc) (hs : slots ≤ ms) (h : post C L' f' (fo 0)) : W p l e R s m args below meth c H locs cells slots (vx_MQ below (wo_Q G L oo sz post) XC args s mc ms (wy_A (L ++ [oo]) sz)) (F0 m pc ls [.int C]) :=
  vx_ret (W.widen hc hs (W.iret hexec hb hr (fun t ht hW => ⟨⟨C, L', f', fo, rfl, h, by rw [ht]; exact hw.1, hw.2.1, hoo, by rw [ht]; exact hO⟩, hw.2.2.F ht⟩) hw.2.2.2.2 hdg hlocks))
end WO
