/-! THE LAW'S TWO WORLDS: the purse's (L, f), and the law's own arrays (La, fa) -/
def wc_N (U : State) : Prop := va_Nc eS eI U ∧ va_Nc eA eI U ∧ va_Nc eS eA U
theorem wc_N.moved {u U : State} (hvm : u.vm.Alike U.vm) (h : wc_N u) : wc_N U := ⟨h.1.moved hvm, h.2.1.moved hvm, h.2.2.moved hvm⟩
theorem wy_H.keep {G : wy_G} {A B : Nat → Prop} {H0 H H1 : Heap} {locs locs1 : List Loc} {L : List Nat} {f : Nat → va_E} (hw : wy_H G L f A H0 H locs) (hk : ∀ q, q < H.size → ¬ B q → H1[q]? = H[q]?) (hB : ∀ q, q ∈ L → ¬ B q) (hS : va_S A H0 H1 locs1) : wy_H G L f A H0 H1 locs1 := by
  refine ⟨hw.1.kept (fun k q hq => ?_), hw.2.1, hS⟩
  have := List.mem_of_getElem? hq
  simp only [va_pl, List.mem_map] at this
  obtain ⟨a, ha, rfl⟩ := this
  exact hk a (hw.lt ha) (hB a ha)
def wq_H (G : wy_G) (A : Nat → Prop) (H0 H : Heap) (locs : List Loc) (L : List Nat) (f : Nat → va_E) (La : List Nat) (fa : Nat → va_E) : Prop :=
  wy_H G L f A H0 H locs ∧ wy_H G La fa A H0 H locs ∧ ∀ q, q ∈ La → q ∉ L
def wq_P (G : wy_G) (L : List Nat) (f : Nat → va_E) (La : List Nat) (fa : Nat → va_E) (sz : Nat) (U : State) : Prop :=
  wy_W G L f sz U ∧ wy_W G La fa sz U ∧ (∀ q, q ∈ La → q ∉ L) ∧ wt_E (wy_A (L ++ La) sz) U ∧ wl_E G (wy_A (L ++ La) sz) U ∧ wc_N U
def wq_Q (G : wy_G) (L La : List Nat) (sz : Nat) (post : Value → List Nat → (Nat → va_E) → (Nat → va_E) → Prop) : Array Value → State → Outcome → State → Prop := fun _ st oc t =>
  (∃ (r : Value) (L' : List Nat) (f' fa' : Nat → va_E), oc = .returned (some r) ∧ post r L' f' fa' ∧ va_P G.1 vwCl (va_pl L' f') t.heap ∧ va_D (wy_A (L ++ La) sz) (va_pl L' f') ∧ va_P G.1 vwCl (va_pl La fa') t.heap ∧ va_D (wy_A (L ++ La) sz) (va_pl La fa') ∧ ∀ q, q ∈ La → q ∉ L') ∧ va_F (wy_A (L ++ La) sz) st t
theorem wq_Al {L La : List Nat} {sz : Nat} : ∀ q, wy_A L sz q → wy_A (L ++ La) sz q := fun q h => h.imp (fun z => List.mem_append_left _ z) id
theorem wq_Ar {L La : List Nat} {sz : Nat} : ∀ q, wy_A La sz q → wy_A (L ++ La) sz q := fun q h => h.imp (fun z => List.mem_append_right _ z) id
theorem wq_start {G : wy_G} {L La : List Nat} {f fa : Nat → va_E} {sz : Nat} {U : State} (h : wq_P G L f La fa sz U) : wq_H G (wy_A (L ++ La) sz) U.heap U.heap [] L f La fa ∧ wy_K G U ∧ ∀ q, U.heap.size ≤ q → wy_A (L ++ La) sz q := by
  obtain ⟨h1, h2, h3, -, -, -⟩ := h
  obtain ⟨w1, hK, hA⟩ := wy_start h1
  obtain ⟨w2, -, -⟩ := wy_start h2
  exact ⟨⟨⟨w1.1, w1.2.1.weaken (fun _ q _ h => wq_Al _ h), va_S.rf⟩, ⟨w2.1, w2.2.1.weaken (fun _ q _ h => wq_Ar _ h), va_S.rf⟩, h3⟩, hK, fun q hq => wq_Al _ (hA q hq)⟩
theorem wq_H.sub {G : wy_G} {A : Nat → Prop} {H0 H : Heap} {locs : List Loc} {L La : List Nat} {f fa : Nat → va_E} (h : wq_H G A H0 H locs L f La fa) (hA : ∀ q, H0.size ≤ q → A q) : ∀ q, wy_A (L ++ La) H.size q → A q := fun q hq => by
  rcases hq with hq | hq
  · rcases List.mem_append.mp hq with z | z
    · exact h.1.mem z
    · exact h.2.1.mem z
  · exact hA q (Nat.le_trans h.1.2.2.1 hq)
theorem wq_join {G : wy_G} {A : Nat → Prop} {H0 H : Heap} {locs : List Loc} {L La : List Nat} {f fa : Nat → va_E} (h : wq_H G A H0 H locs L f La fa) : wy_H G (L ++ La) (fun z => if z ∈ La then fa z else f z) A H0 H locs := by
  obtain ⟨⟨hP, hD, hS⟩, ⟨hPa, hDa, -⟩, hn⟩ := h
  have e : va_pl (L ++ La) (fun z => if z ∈ La then fa z else f z) = va_pl L f ++ va_pl La fa := by
    simp only [va_pl, List.map_append]
    congr 1
    · exact List.map_congr_left (fun b hb => by rw [if_neg (fun z => hn b z hb)])
    · exact List.map_congr_left (fun b hb => by rw [if_pos hb])
  have hx : ∀ (i j : Nat) (p q : Nat × va_E), (va_pl L f)[i]? = some p → (va_pl La fa)[j]? = some q → p.1 ≠ q.1 := fun i j p q hi hj => by
    have h1 := List.mem_of_getElem? hi
    have h2 := List.mem_of_getElem? hj
    simp only [va_pl, List.mem_map] at h1 h2
    obtain ⟨a, ha, rfl⟩ := h1
    obtain ⟨b, hb, rfl⟩ := h2
    exact fun z => hn b hb ((show a = b from z) ▸ ha)
  exact ⟨by rw [e]; exact hP.app hPa, by rw [e]; exact hD.app hDa hx, hS⟩
theorem wq_split {G : wy_G} {A : Nat → Prop} {H0 H : Heap} {locs : List Loc} {L La : List Nat} {f fa F : Nat → va_E} (h : wy_H G (L ++ La) F A H0 H locs) (h1 : ∀ z, z ∈ L → F z = f z) (h2 : ∀ z, z ∈ La → F z = fa z) (hn : ∀ q, q ∈ La → q ∉ L) : wq_H G A H0 H locs L f La fa := by
  obtain ⟨hP, hD, hS⟩ := h
  have e : va_pl (L ++ La) F = va_pl L f ++ va_pl La fa := by
    simp only [va_pl, List.map_append]
    congr 1
    · exact List.map_congr_left (fun b hb => by rw [h1 b hb])
    · exact List.map_congr_left (fun b hb => by rw [h2 b hb])
  rw [e] at hP hD
  have up : ∀ (k : Nat) (q : Nat × va_E), (va_pl L f)[k]? = some q → (va_pl L f ++ va_pl La fa)[k]? = some q := fun k q hk => by
    rw [List.getElem?_append_left (List.getElem?_eq_some_iff.mp hk).1]; exact hk
  have dn : ∀ (k : Nat) (q : Nat × va_E), (va_pl La fa)[k]? = some q → (va_pl L f ++ va_pl La fa)[k + (va_pl L f).length]? = some q := fun k q hk => by
    rw [List.getElem?_append_right (Nat.le_add_left _ _), Nat.add_sub_cancel]; exact hk
  exact ⟨⟨fun k q hk => hP k q (up k q hk), ⟨fun i j p q hi hj => hD.1 i j p q (up i p hi) (up j q hj), fun k q hk => hD.2 k q (up k q hk)⟩, hS⟩,
    ⟨fun k q hk => hP _ q (dn k q hk), ⟨fun i j p q hi hj he => by have := hD.1 _ _ p q (dn i p hi) (dn j q hj) he; omega, fun k q hk => hD.2 _ q (dn k q hk)⟩, hS⟩, hn⟩
section WQ
variable {p : Program} {l : Launch} {e : Env} {R : Room} {s : State} {m : MethodId} {args : Array Value} {below : List Frame} {meth : Method} {c : Code} {H : Heap} {locs : List Loc} {cells slots : Nat} {Q : State → Prop}
variable {cc : ByteArray} {pc : Nat} {ls : Array Slot} {rest st0 : List Value} {A : Nat → Prop} {a : Nat} {G : wy_G} {L La : List Nat} {f fa : Nat → va_E}
theorem wq_bl {av : List Value} {sz : Nat} : FrameBlind (va_Pc av (wq_P G L f La fa sz)) := fun a U g mk q => by
  obtain ⟨q0, ⟨q1, qP, qK, qD⟩, ⟨r1, rP, rK, rD⟩, q3, qE, qZ, qN⟩ := q
  exact ⟨q0, ⟨q1, qP, wy_K.moved (u := U) (U := U.calling g mk a) (Vm.Alike.refl U.vm) qK, qD⟩, ⟨r1, rP, wy_K.moved (u := U) (U := U.calling g mk a) (Vm.Alike.refl U.vm) rK, rD⟩, q3, qE.calling, qZ.calling, wc_N.moved (u := U) (U := U.calling g mk a) (Vm.Alike.refl U.vm) qN⟩
theorem wq_pre {As : List Value} (hK : wy_K G s) (hE : wt_E A s) (hZ : wl_E G A s) (hN : wc_N s) (h : wq_H G A s.heap H locs L f La fa) (hA : ∀ q, s.heap.size ≤ q → A q) : PreS s H (va_Pc As (wq_P G L f La fa H.size)) As :=
  ⟨wq_bl, fun U hU hW => ⟨rfl, wy_toW hK h.1 hU hW, wy_toW hK h.2.1 hU hW, h.2.2, hE.at h.1.2.2 hU hW (h.sub hA), hZ.at h.1.2.2 hU hW (h.sub hA), hN.moved hW.alike⟩⟩
theorem wq_nil {H0 : Heap} (h : wy_H G L f A H0 H locs) : wq_H G A H0 H locs L f [] fa :=
  ⟨h, ⟨fun k q h => by simp [va_pl] at h, ⟨fun i j x y h => by simp [va_pl] at h, fun k q h => by simp [va_pl] at h⟩, h.2.2⟩, fun q h => absurd h List.not_mem_nil⟩
theorem wq_pre0 {As : List Value} (hK : wy_K G s) (hE : wt_E A s) (hZ : wl_E G A s) (hN : wc_N s) (h : wq_H G A s.heap H locs L f La fa) (hA : ∀ q, s.heap.size ≤ q → A q) : PreS s H (va_Pc As (wq_P G L f [] fa H.size)) As := wq_pre hK hE hZ hN (wq_nil h.1) hA
/-- the law's call of does, asks, average: the purse's world alone; all else is kept -/
theorem wq_call0 {mc ms : Nat} {av : Array Value} {post : Value → List Nat → (Nat → va_E) → (Nat → va_E) → Prop} (hr : vx_Run p l e R s m args below meth c H locs cells slots mc ms (F0 m pc ls st0) rest (wq_Q G L [] H.size post av) (fun _ _ _ => False) (wy_A (L ++ []) H.size)) (h : wq_H G A s.heap H locs L f La fa) (hA : ∀ q, s.heap.size ≤ q → A q)
    (kk : ∀ (r : Value) (L' : List Nat) (f' fx : Nat → va_E) (H1 : Heap) (locs1 : List Loc), post r L' f' fx → wq_H G A s.heap H1 locs1 L' f' La fa → W p l e R s m args below meth c H1 locs1 (cells + mc) (slots + ms) Q (F0 m (pc + 3) ls (r :: rest))) : W p l e R s m args below meth c H locs cells slots Q (F0 m pc ls st0) := by
  obtain ⟨hw, hm, hd⟩ := h
  rw [List.append_nil] at hr
  have hsub := hw.sub hA
  have hB : ∀ q, q < H.size → q ∉ L → ¬ wy_A L H.size q := fun q a b z => z.elim b (fun z => absurd a (by omega))
  intro T hT X
  rcases hr T hT X with ⟨v, st₀, t, T', Ls, h0, X', hL, e1, e2, ⟨⟨r, L', f', fx, hv, hp, hPt, hDt, -, -, -⟩, hF⟩, st⟩ | ⟨q, st₀, t, T', Ls, E, ce, h0, X', hL, e1, e2, hF, -⟩
  · cases hv
    rw [List.append_nil] at hDt hF
    obtain ⟨k1, k2, k3⟩ := vx_keep h0 e1 hw.2.2 (fun q _ h => hsub q h) hsub hL hF
    have hL' : ∀ q, q ∈ La → q ∉ L' := fun q hq z => by
      obtain ⟨k, hk⟩ := va_pl_get (X := []) (f := f') z
      exact hB q (hm.lt hq) (hd q hq) (hDt.2 k _ hk)
    obtain ⟨t2, a1, b1⟩ := kk r L' f' fx T'.heap (locs ++ Ls) hp ⟨⟨by rw [e1]; exact hPt, hDt.weaken (fun _ q _ h => hsub q.1 h), k3⟩, hm.keep k2 (fun q hq => hB q (hm.lt hq) (hd q hq)) k3, hL'⟩ T' rfl X'
    exact ⟨t2, st t2 a1, b1⟩
  · exact hF.elim
/-- the law's call of a method of its own that has the arrays too -/
theorem wq_call {mc ms : Nat} {av : Array Value} {post : Value → List Nat → (Nat → va_E) → (Nat → va_E) → Prop} (hr : va_Run p l e R s m args below meth c H locs cells slots mc ms (F0 m pc ls st0) rest (wq_Q G L La H.size post av) (wy_A (L ++ La) H.size)) (h : wq_H G A s.heap H locs L f La fa) (hA : ∀ q, s.heap.size ≤ q → A q)
    (kk : ∀ (r : Value) (L' : List Nat) (f' fa' : Nat → va_E) (H1 : Heap) (locs1 : List Loc), post r L' f' fa' → wq_H G A s.heap H1 locs1 L' f' La fa' → W p l e R s m args below meth c H1 locs1 (cells + mc) (slots + ms) Q (F0 m (pc + 3) ls (r :: rest))) : W p l e R s m args below meth c H locs cells slots Q (F0 m pc ls st0) := by
  have hsub := h.sub hA
  obtain ⟨hw, hm, hd⟩ := h
  intro T hT X
  obtain ⟨v, st₀, t, T', Ls, h0, X', hL, e1, e2, ⟨⟨r, L', f', fa', hv, hp, hPt, hDt, hPa, hDa, hn⟩, hF⟩, st⟩ := hr T hT X
  cases hv
  obtain ⟨k1, k2, k3⟩ := vx_keep h0 e1 hw.2.2 (fun q _ h => hsub q h) hsub hL hF
  obtain ⟨t2, a1, b1⟩ := kk r L' f' fa' T'.heap (locs ++ Ls) hp ⟨⟨by rw [e1]; exact hPt, hDt.weaken (fun _ q _ h => hsub q.1 h), k3⟩, ⟨by rw [e1]; exact hPa, hDa.weaken (fun _ q _ h => hsub q.1 h), k3⟩, hn⟩ T' rfl X'
  exact ⟨t2, st t2 a1, b1⟩
/-- an int is written into an array of the law's -/
theorem wq_iast (hexec : p.tables.exec = Jvm.exec) (hb : c.code = cc) (hK : wy_K G s) {H0 : Heap} (hw : wq_H G A H0 H locs L f La fa) {n : Nat} {g : Nat → Int32} (he : wy_c La fa a (.inl (G.2 0, n, .inl g))) {i x : Int32} (k : Nat) (hi : i = nI k) (hk : k < n) (hn : n < 2 ^ 31) (hdg : decode cc pc = .ok (.iastore, 1))
    (kk : ∀ (H1 : Heap) (locs1 : List Loc) (f1 : Nat → va_E), wy_c La f1 a (.inl (G.2 0, n, .inl (upd g k x))) → (∀ b, b ≠ a → f1 b = fa b) → wq_H G A H0 H1 locs1 L f La f1 → W p l e R s m args below meth c H1 locs1 cells slots Q (F0 m (pc + 1) ls rest)) : W p l e R s m args below meth c H locs cells slots Q (F0 m pc ls (.int x :: .int i :: .ref a :: rest)) := by
  have hj := wq_join hw
  refine wy_iast hexec hb hK hj (show wy_c (L ++ La) _ a (.inl (G.2 0, n, .inl g)) from ⟨List.mem_append_right _ he.1, (if_pos he.1).trans he.2⟩) k hi hk hn hdg (fun H1 locs1 F hF hne hw1 => ?_)
  refine kk H1 locs1 (fun z => if z = a then .inl (G.2 0, n, .inl (upd g k x)) else fa z) ⟨he.1, if_pos rfl⟩ (fun b hb => if_neg hb) (wq_split hw1 (fun z hz => ?_) (fun z hz => ?_) hw.2.2)
  · have h1 : z ∉ La := fun q => hw.2.2 z q hz
    have h2 : z ≠ a := fun q => h1 (q ▸ he.1)
    exact (hne z h2).trans (if_neg h1)
  · by_cases h : z = a
    · subst h; rw [if_pos rfl]; exact hF.2
    · rw [if_neg h]; exact (hne z h).trans (if_pos hz)
/-- an int array is made, and belongs to the law's -/
theorem wq_newI (hexec : p.tables.exec = Jvm.exec) (hb : c.code = cc) (harr : (Cond.arrayClass .int).before args s = true) (hK : wy_K G s) {H0 : Heap} (hw : wq_H G A H0 H locs L f La fa) (hA : ∀ q, H0.size ≤ q → A q) {x : Int32} (n : Nat) (hx : x = nI n) (hn : n ≤ 1000) (hcells : cells + 1 ≤ R.cells) (hslots : slots + n ≤ R.slots) (hdg : decode cc pc = .ok (.newarray .int, 2))
    (kk : ∀ (q : Nat) (H1 : Heap) (f1 : Nat → va_E), q ∉ La → wy_c (La ++ [q]) f1 q (.inl (G.2 0, n, .inl (fun _ => 0))) → (∀ b, b ≠ q → f1 b = fa b) → wq_H G A H0 H1 locs L f (La ++ [q]) f1 → W p l e R s m args below meth c H1 locs (cells + 1) (slots + n) Q (F0 m (pc + 2) ls (.ref q :: rest))) : W p l e R s m args below meth c H locs cells slots Q (F0 m pc ls (.int x :: rest)) := by
  have hj := wq_join hw
  refine wy_newI hexec hb harr hK hj hA n hx hn hcells hslots hdg (fun q H1 F hq hF hne hw1 => ?_)
  have q1 : q ∉ L := fun z => hq (List.mem_append_left _ z)
  have q2 : q ∉ La := fun z => hq (List.mem_append_right _ z)
  rw [List.append_assoc] at hw1
  refine kk q H1 (fun z => if z = q then .inl (G.2 0, n, .inl (fun _ => 0)) else fa z) q2 ⟨List.mem_append_right _ List.mem_cons_self, if_pos rfl⟩ (fun b hb => if_neg hb) (wq_split hw1 (fun z hz => ?_) (fun z hz => ?_) (fun z hz => ?_))
  · have h1 : z ∉ La := fun q => hw.2.2 z q hz
    have h2 : z ≠ q := fun w => q1 (w ▸ hz)
    exact (hne z h2).trans (if_neg h1)
  · by_cases h : z = q
    · subst h; rw [if_pos rfl]; exact hF.2
    · rw [if_neg h]
      rcases List.mem_append.mp hz with z1 | z1
      · exact (hne z h).trans (if_pos z1)
      · exact absurd (List.mem_singleton.mp z1) h
  · rcases List.mem_append.mp hz with z1 | z1
    · exact hw.2.2 z z1
    · rw [List.mem_singleton.mp z1]; exact q1
/-- what was made in a method is let go at its end -/
theorem wq_H.drop {H0 : Heap} {q : Nat} (h : wq_H G A H0 H locs L f (La ++ [q]) fa) : wq_H G A H0 H locs L f La fa := by
  obtain ⟨h1, h2, h3⟩ := h
  refine ⟨h1, (wq_split (L := La) (La := [q]) (f := fa) (fa := fa) h2 (fun _ _ => rfl) (fun _ _ => rfl) (fun z hz hL => ?_)).1, fun z hz => h3 z (List.mem_append_left _ hz)⟩
  obtain ⟨k, hk⟩ := List.getElem?_of_mem hL
  have e : (va_pl (La ++ [q]) fa) = va_pl La fa ++ [(q, fa q)] := by simp [va_pl]
  have hlt := (List.getElem?_eq_some_iff.mp hk).1
  have a1 : (va_pl (La ++ [q]) fa)[k]? = some (z, fa z) := by
    rw [e, List.getElem?_append_left (by simp [va_pl]; exact hlt)]
    simp [va_pl, hk]
  have a2 : (va_pl (La ++ [q]) fa)[(va_pl La fa).length]? = some (q, fa q) := by
    rw [e, List.getElem?_append_right (Nat.le_refl _), Nat.sub_self]; rfl
  have := h2.2.1.1 k _ _ _ a1 a2 (List.mem_singleton.mp hz)
  simp [va_pl] at this
  omega
/-- the ends -/
theorem wq_iretX {L0 La0 : List Nat} {r : Int32} {sz mc ms : Nat} {post : Value → List Nat → (Nat → va_E) → (Nat → va_E) → Prop} {XC : String → State → State → Prop} (hexec : p.tables.exec = Jvm.exec) (hb : c.code = cc) (hr : meth.sig.returnType = some .int) (hlocks : meth.locks = false) (hdg : decode cc pc = .ok (.ireturn, 1)) (hw : wq_H G (wy_A (L0 ++ La0) sz) s.heap H locs L f La0 fa) (hc : cells ≤ mc) (hs : slots ≤ ms) (h : post (.int r) L f fa) : W p l e R s m args below meth c H locs cells slots (vx_MQ below (wq_Q G L0 La0 sz post) XC args s mc ms (wy_A (L0 ++ La0) sz)) (F0 m pc ls [.int r]) :=
  vx_ret (W.widen hc hs (W.iret hexec hb hr (fun t ht hW => ⟨⟨.int r, L, f, fa, rfl, h, by rw [ht]; exact hw.1.1, hw.1.2.1, by rw [ht]; exact hw.2.1.1, hw.2.1.2.1, hw.2.2⟩, hw.1.2.2.F ht⟩) hw.1.2.2.2.2 hdg hlocks))
theorem wq_fretX {L0 La0 : List Nat} {r : UInt32} {sz mc ms : Nat} {post : Value → List Nat → (Nat → va_E) → (Nat → va_E) → Prop} {XC : String → State → State → Prop} (hexec : p.tables.exec = Jvm.exec) (hb : c.code = cc) (hr : meth.sig.returnType = some .float) (hlocks : meth.locks = false) (hdg : decode cc pc = .ok (.freturn, 1)) (hw : wq_H G (wy_A (L0 ++ La0) sz) s.heap H locs L f La0 fa) (hc : cells ≤ mc) (hs : slots ≤ ms) (h : post (.float r) L f fa) : W p l e R s m args below meth c H locs cells slots (vx_MQ below (wq_Q G L0 La0 sz post) XC args s mc ms (wy_A (L0 ++ La0) sz)) (F0 m pc ls [.float r]) :=
  vx_ret (W.widen hc hs (W.fret hexec hb hr (fun t ht hW => ⟨⟨.float r, L, f, fa, rfl, h, by rw [ht]; exact hw.1.1, hw.1.2.1, by rw [ht]; exact hw.2.1.1, hw.2.1.2.1, hw.2.2⟩, hw.1.2.2.F ht⟩) hw.1.2.2.2.2 hdg hlocks))
theorem wq_zret {L0 La0 : List Nat} {b : Bool} {r : Int32} {sz mc ms : Nat} {post : Value → List Nat → (Nat → va_E) → (Nat → va_E) → Prop} (hb1 : r = bI b) (hexec : p.tables.exec = Jvm.exec) (hb : c.code = cc) (hr : meth.sig.returnType = some .boolean) (hlocks : meth.locks = false) (hdg : decode cc pc = .ok (.ireturn, 1)) (hw : wq_H G (wy_A (L0 ++ La0) sz) s.heap H locs L f La0 fa) (hc : cells ≤ mc) (hs : slots ≤ ms) (h : post (.int (bI b)) L f fa) : W p l e R s m args below meth c H locs cells slots (MQ below (wq_Q G L0 La0 sz post) args s mc ms (wy_A (L0 ++ La0) sz)) (F0 m pc ls [.int r]) := by
  subst hb1
  exact W.widen hc hs (W.zret hexec hb hr (bI_nar b) (fun t ht hW => ⟨⟨.int (bI b), L, f, fa, rfl, h, by rw [ht]; exact hw.1.1, hw.1.2.1, by rw [ht]; exact hw.2.1.1, hw.2.1.2.1, hw.2.2⟩, hw.1.2.2.F ht⟩) hw.1.2.2.2.2 hdg hlocks)
end WQ
theorem wo_pX {p : Program} {s : State} {H : Heap} {locs : List Loc} {A : Nat → Prop} {G : wy_G} {L : List Nat} {f : Nat → va_E} {a : Nat} {C : String} {T : u_T} {N ci : Nat} {fs As : List Value} (hK : wy_K G s) (hE : wt_E A s) (hZ : wl_E G A s) (hw : wy_H G L f A s.heap H locs) (hA : ∀ q, s.heap.size ≤ q → A q) (he : wy_c L f a (.inr (ci, fs))) (hc : vwCl[ci]? = some (C, T, N)) : PreV s H C a (va_Pc (.ref a :: As) (wt_Q G L f H.size)) As :=
  ⟨fun a U g mk q => by
    obtain ⟨q0, ⟨⟨q1, qP, qK, qD⟩, qE⟩, qZ⟩ := q
    exact ⟨q0, ⟨⟨q1, qP, wy_K.moved (u := U) (U := U.calling g mk a) (Vm.Alike.refl U.vm) qK, qD⟩, qE.calling⟩, qZ.calling⟩, wy_recv hK hw.1 he hc, fun U hU hW => ⟨rfl, ⟨wy_toW hK hw hU hW, hE.at hw.2.2 hU hW (hw.sub hA)⟩, hZ.at hw.2.2 hU hW (hw.sub hA)⟩⟩
section WQX
variable {p : Program} {l : Launch} {e : Env} {R : Room} {s : State} {m : MethodId} {args : Array Value} {below : List Frame} {meth : Method} {c : Code} {H : Heap} {locs : List Loc} {cells slots : Nat} {Q : State → Prop}
variable {pc : Nat} {ls : Array Slot} {rest st0 : List Value} {A : Nat → Prop} {G : wy_G} {L La : List Nat} {f fa : Nat → va_E}
/-- a call of the class that may throw: what it throws is caught here -/
theorem wq_callX {mc ms : Nat} {av : Array Value} {post : Option Value → List Nat → (Nat → va_E) → Prop} {px : String → Prop} (hr : vx_Run p l e R s m args below meth c H locs cells slots mc ms (F0 m pc ls st0) rest (wy_Q G post (wy_A L H.size) av) (wt_X G px L f (wy_A L H.size)) (wy_A L H.size)) (h : wq_H G A s.heap H locs L f La fa) (hA : ∀ q, s.heap.size ≤ q → A q)
    (kx : ∀ (E : String) (ce : Cell) (q : Addr) (H1 : Heap) (locs1 : List Loc), px E → wq_H G A s.heap H1 locs1 L f La fa → H1[q]? = some ce → ce.vm = .none → s.vm.findClass E = some ce.cls → vx_W p l e R s m args below meth c H1 locs1 (cells + mc) (slots + ms) Q (F0 m pc ls rest) q)
    (kk : ∀ (r : Option Value) (L' : List Nat) (f' : Nat → va_E) (H1 : Heap) (locs1 : List Loc), post r L' f' → wq_H G A s.heap H1 locs1 L' f' La fa → W p l e R s m args below meth c H1 locs1 (cells + mc) (slots + ms) Q (F0 m (pc + 3) ls (r.toList ++ rest))) :
    W p l e R s m args below meth c H locs cells slots Q (F0 m pc ls st0) := by
  obtain ⟨hw, hm, hd⟩ := h
  have hsub := hw.sub hA
  have hB : ∀ q, q < H.size → q ∉ L → ¬ wy_A L H.size q := fun q a b z => z.elim b (fun z => absurd a (by omega))
  intro T hT X
  rcases hr T hT X with ⟨v, st₀, t, T', Ls, h0, X', hL, e1, e2, ⟨⟨r, L', f', hv, hp, hPt, hDt⟩, hF⟩, st⟩ | ⟨q, st₀, t, T', Ls, E, ce, h0, X', hL, e1, e2, ⟨hp, hPt, hF⟩, hce, hcv, hcl, st⟩
  · cases hv
    obtain ⟨k1, k2, k3⟩ := vx_keep h0 e1 hw.2.2 (fun q _ h => hsub q h) hsub hL hF
    have hL' : ∀ q, q ∈ La → q ∉ L' := fun q hq z => by
      obtain ⟨k, hk⟩ := va_pl_get (X := []) (f := f') z
      exact hB q (hm.lt hq) (hd q hq) (hDt.2 k _ hk)
    obtain ⟨t2, a1, b1⟩ := kk v L' f' T'.heap (locs ++ Ls) hp ⟨⟨by rw [e1]; exact hPt, hDt.weaken (fun _ q _ h => hsub q.1 h), k3⟩, hm.keep k2 (fun q hq => hB q (hm.lt hq) (hd q hq)) k3, hL'⟩ T' rfl X'
    exact ⟨t2, st t2 a1, b1⟩
  · obtain ⟨k1, k2, k3⟩ := vx_keep h0 e1 hw.2.2 (fun q _ h => hsub q h) hsub hL hF
    obtain ⟨t2, a1, b1⟩ := kx E ce q T'.heap (locs ++ Ls) hp ⟨⟨by rw [e1]; exact hPt, hw.2.1, k3⟩, hm.keep k2 (fun q hq => hB q (hm.lt hq) (hd q hq)) k3, hd⟩ (by rw [e1]; exact hce) hcv hcl T' rfl X'
    exact ⟨t2, st.trans a1, b1⟩
end WQX
