/-! THE WORLD OF THIS CLAIM: a list of addresses, and what lies at each; a cell is told by 'wy_c L f a e'; what a method does to the world is told as a new f (and a new L, where it makes cells). -/
abbrev wy_G : Type := va_G × (Nat → ClassId)
abbrev wy_ty (G : wy_G) : List (ClassId × FieldType) := [(G.2 0, .int), (G.2 0, .int), (G.2 2, .object "java/lang/Object"), (G.2 0, .int), (G.2 0, .int)]
def wy_K (G : wy_G) (U : State) : Prop := va_K G.1 vwCl (wy_ty G) U
theorem wy_K.moved {G : wy_G} {u U : State} (hvm : u.vm.Alike U.vm) (h : wy_K G u) : wy_K G U := va_K.moved hvm h
def wy_c (L : List Nat) (f : Nat → va_E) (a : Nat) (e : va_E) : Prop := a ∈ L ∧ f a = e
theorem wy_at {L : List Nat} {f : Nat → va_E} {a : Nat} {e : va_E} (h : wy_c L f a e) : ∃ k : Nat, (va_pl L f)[k]? = some (a, f a) ∧ (va_pl L f)[k]? = some (a, e) := by
  obtain ⟨k, hk⟩ := va_pl_get (X := []) (f := f) h.1
  exact ⟨k, hk, hk.trans (by rw [h.2])⟩
theorem wy_c.ne {L : List Nat} {f : Nat → va_E} {a b : Nat} {e x : va_E} (h : wy_c L f a e) (hn : a ≠ b) : wy_c L (va_up f b x) a e := ⟨h.1, by rw [va_up_ne _ _ hn]; exact h.2⟩
theorem wy_c.self {L : List Nat} {f : Nat → va_E} {a : Nat} {e x : va_E} (h : wy_c L f a e) : wy_c L (va_up f a x) a x := ⟨h.1, va_up_self _ _ _⟩
theorem wy_c.app {L : List Nat} {f : Nat → va_E} {a q : Nat} {e x : va_E} (h : wy_c L f a e) (hq : q ∉ L) : wy_c (L ++ [q]) (va_up f q x) a e := ⟨List.mem_append_left _ h.1, by rw [va_up_ne _ _ (show a ≠ q from fun z => hq (z ▸ h.1))]; exact h.2⟩
theorem wy_c.new {L : List Nat} {f : Nat → va_E} {q : Nat} {x : va_E} : wy_c (L ++ [q]) (va_up f q x) q x := ⟨List.mem_append_right _ List.mem_cons_self, va_up_self _ _ _⟩
def wy_A (L : List Nat) (sz : Nat) : Nat → Prop := fun q => q ∈ L ∨ sz ≤ q
/-- what a method that only reads is given -/
def wy_R (G : wy_G) (L : List Nat) (f : Nat → va_E) (U : State) : Prop := va_P G.1 vwCl (va_pl L f) U.heap ∧ wy_K G U
/-- what a method that writes is given -/
def wy_W (G : wy_G) (L : List Nat) (f : Nat → va_E) (sz : Nat) (U : State) : Prop := U.heap.size = sz ∧ va_P G.1 vwCl (va_pl L f) U.heap ∧ wy_K G U ∧ va_D (fun _ => True) (va_pl L f)
/-- the world within a method that writes -/
def wy_H (G : wy_G) (L : List Nat) (f : Nat → va_E) (A : Nat → Prop) (H0 H : Heap) (locs : List Loc) : Prop := va_P G.1 vwCl (va_pl L f) H ∧ va_D A (va_pl L f) ∧ va_S A H0 H locs
def wy_Q (G : wy_G) (post : Option Value → List Nat → (Nat → va_E) → Prop) (A : Nat → Prop) : Array Value → State → Outcome → State → Prop := fun _ st oc t =>
  (∃ (r : Option Value) (L' : List Nat) (f' : Nat → va_E), oc = .returned r ∧ post r L' f' ∧ va_P G.1 vwCl (va_pl L' f') t.heap ∧ va_D A (va_pl L' f')) ∧ va_F A st t
theorem wy_start {G : wy_G} {L : List Nat} {f : Nat → va_E} {sz : Nat} {U : State} (h : wy_W G L f sz U) : wy_H G L f (wy_A L sz) U.heap U.heap [] ∧ wy_K G U ∧ ∀ q, U.heap.size ≤ q → wy_A L sz q := by
  obtain ⟨h1, h2, h3, h4⟩ := h
  refine ⟨⟨h2, ⟨h4.1, fun k q hk => ?_⟩, va_S.rf⟩, h3, fun q hq => Or.inr (by omega)⟩
  have := List.mem_of_getElem? hk
  simp only [va_pl, List.mem_map] at this
  obtain ⟨a, ha, rfl⟩ := this
  exact Or.inl ha
theorem wy_H.mem {G : wy_G} {L : List Nat} {f : Nat → va_E} {A : Nat → Prop} {H0 H : Heap} {locs : List Loc} (h : wy_H G L f A H0 H locs) {a : Nat} (ha : a ∈ L) : A a := by
  obtain ⟨k, hk⟩ := va_pl_get (X := []) (f := f) ha
  exact h.2.1.2 k _ hk
theorem wy_H.sub {G : wy_G} {L : List Nat} {f : Nat → va_E} {A : Nat → Prop} {H0 H : Heap} {locs : List Loc} (h : wy_H G L f A H0 H locs) (hA : ∀ q, H0.size ≤ q → A q) : ∀ q, wy_A L H.size q → A q := fun q hq => by
  rcases hq with hq | hq
  · exact h.mem hq
  · exact hA q (Nat.le_trans h.2.2.1 hq)
theorem wy_H.lt {G : wy_G} {L : List Nat} {f : Nat → va_E} {A : Nat → Prop} {H0 H : Heap} {locs : List Loc} (h : wy_H G L f A H0 H locs) {a : Nat} (ha : a ∈ L) : a < H.size := va_pl_lt (X := []) h.1 ha
section WY
variable {p : Program} {l : Launch} {e : Env} {R : Room} {s : State} {m : MethodId} {args : Array Value} {below : List Frame} {meth : Method} {c : Code} {H : Heap} {locs : List Loc} {cells slots : Nat} {Q : State → Prop}
variable {cc : ByteArray} {pc : Nat} {ls : Array Slot} {rest st0 : List Value} {A : Nat → Prop} {a : Nat} {H0 : Heap} {G : wy_G} {L : List Nat} {f : Nat → va_E}
theorem wy_get (hexec : p.tables.exec = Jvm.exec) (hb : c.code = cc) {own ref C : String} {T : u_T} {N ci index : Nat} {Ts : List Cond} (hts : ∀ w ∈ Ts, w.before args s = true) (hin : ∀ w ∈ u_ws C T N, w ∈ Ts) (hown : s.vm.findClass own = some m.cls) (hK : wy_K G s) (hP : va_P G.1 vwCl (va_pl L f) H) {fs : List Value} (he : wy_c L f a (.inr (ci, fs))) (hc : vwCl[ci]? = some (C, T, N)) (k : Nat) (hk : k < N) (hlink : (Cond.fieldLink own index ref (T k).2.1 (T k).2.2.1).before args s = true) (hsame : ∀ x, s.fieldFound? (T k).1 (T k).2.1 (T k).2.2.1 = some x → s.fieldFound? ref (T k).2.1 (T k).2.2.1 = some x) {v : Value} (hv : fs[k]? = some v) (hdg : decode cc pc = .ok (.getfield index, 3))
    (kk : W p l e R s m args below meth c H locs cells slots Q (F0 m (pc + 3) ls (v :: rest))) : W p l e R s m args below meth c H locs cells slots Q (F0 m pc ls (.ref a :: rest)) := by
  obtain ⟨q0, -, hq⟩ := wy_at he
  exact va_get hexec hb hts hin hown hK hP q0 hq hc k hk hlink hsame hv hdg kk
theorem wy_put (hexec : p.tables.exec = Jvm.exec) (hb : c.code = cc) {own ref C : String} {T : u_T} {N ci index : Nat} {Ts : List Cond} (hts : ∀ w ∈ Ts, w.before args s = true) (hin : ∀ w ∈ u_ws C T N, w ∈ Ts) (ty0 : Nat → FieldType) (hty : ∀ k, k < N → parseFieldDescriptor (T k).2.2.1 = some (ty0 k)) (hnm : ∀ a, a < N → ∀ b, b < N → a ≠ b → (T a).2.1 ≠ (T b).2.1) (hown : s.vm.findClass own = some m.cls) (hK : wy_K G s) (hw : wy_H G L f A H0 H locs) {fs : List Value} (he : wy_c L f a (.inr (ci, fs))) (hc : vwCl[ci]? = some (C, T, N)) (k : Nat) (hk : k < N) (hlink : (Cond.fieldLink own index ref (T k).2.1 (T k).2.2.1).before args s = true) (hsame : ∀ x, s.fieldFound? (T k).1 (T k).2.1 (T k).2.2.1 = some x → s.fieldFound? ref (T k).2.1 (T k).2.2.1 = some x) (hfin : (T k).2.2.2 = false) {ty : FieldType} {v : Value} (hd : parseFieldDescriptor (T k).2.2.1 = some ty) (hn : narrow ty v = v) (hfit : fits ty v = true) (hl : k < fs.length)
    (hdg : decode cc pc = .ok (.putfield index, 3)) (kk : ∀ (H1 : Heap) (locs1 : List Loc) (f1 : Nat → va_E), wy_c L f1 a (.inr (ci, fs.set k v)) → (∀ b, b ≠ a → f1 b = f b) → wy_H G L f1 A H0 H1 locs1 → W p l e R s m args below meth c H1 locs1 cells slots Q (F0 m (pc + 3) ls rest)) : W p l e R s m args below meth c H locs cells slots Q (F0 m pc ls (v :: .ref a :: rest)) := by
  obtain ⟨q0, hq0, hq⟩ := wy_at he
  obtain ⟨hP, hD, hS⟩ := hw
  refine va_put hexec hb hts hin ty0 hty hnm hown hK hP hD hS q0 hq hc k hk hlink hsame hfin hd hn hfit hl hdg (fun H1 locs1 hP1 hD1 hS1 => ?_)
  have hset := va_pl_set (X := []) (e := .inr (ci, fs.set k v)) hD he.1 hq0
  rw [List.nil_append, List.nil_append] at hset
  rw [hset] at hP1 hD1
  exact kk H1 locs1 _ he.self (fun b h => va_up_ne _ _ h) ⟨hP1, hD1, hS1⟩
theorem wy_putF (hexec : p.tables.exec = Jvm.exec) (hb : c.code = cc) {own ref C : String} {T : u_T} {N ci index : Nat} {Ts : List Cond} (hts : ∀ w ∈ Ts, w.before args s = true) (hin : ∀ w ∈ u_ws C T N, w ∈ Ts) (ty0 : Nat → FieldType) (hty : ∀ k, k < N → parseFieldDescriptor (T k).2.2.1 = some (ty0 k)) (hnm : ∀ a, a < N → ∀ b, b < N → a ≠ b → (T a).2.1 ≠ (T b).2.1) (hown : s.vm.findClass own = some m.cls) (hK : wy_K G s) (hw : wy_H G L f A H0 H locs) {fs : List Value} (he : wy_c L f a (.inr (ci, fs))) (hc : vwCl[ci]? = some (C, T, N)) (k : Nat) (hk : k < N) (hlink : (Cond.fieldLink own index ref (T k).2.1 (T k).2.2.1).before args s = true) (hsame : ∀ x, s.fieldFound? (T k).1 (T k).2.1 (T k).2.2.1 = some x → s.fieldFound? ref (T k).2.1 (T k).2.2.1 = some x) (hfin : (T k).2.2.2 = true) (hin2 : meth.name = "<init>") (hdecl : (T k).1 = own) {ty : FieldType} {v : Value} (hd : parseFieldDescriptor (T k).2.2.1 = some ty) (hn : narrow ty v = v) (hfit : fits ty v = true) (hl : k < fs.length)
    (hdg : decode cc pc = .ok (.putfield index, 3)) (kk : ∀ (H1 : Heap) (locs1 : List Loc) (f1 : Nat → va_E), wy_c L f1 a (.inr (ci, fs.set k v)) → (∀ b, b ≠ a → f1 b = f b) → wy_H G L f1 A H0 H1 locs1 → W p l e R s m args below meth c H1 locs1 cells slots Q (F0 m (pc + 3) ls rest)) : W p l e R s m args below meth c H locs cells slots Q (F0 m pc ls (v :: .ref a :: rest)) := by
  obtain ⟨q0, hq0, hq⟩ := wy_at he
  obtain ⟨hP, hD, hS⟩ := hw
  refine va_putF hexec hb hts hin ty0 hty hnm hown hK hP hD hS q0 hq hc k hk hlink hsame hfin hin2 hdecl hd hn hfit hl hdg (fun H1 locs1 hP1 hD1 hS1 => ?_)
  have hset := va_pl_set (X := []) (e := .inr (ci, fs.set k v)) hD he.1 hq0
  rw [List.nil_append, List.nil_append] at hset
  rw [hset] at hP1 hD1
  exact kk H1 locs1 _ he.self (fun b h => va_up_ne _ _ h) ⟨hP1, hD1, hS1⟩
theorem wy_iald (hexec : p.tables.exec = Jvm.exec) (hb : c.code = cc) (hK : wy_K G s) (hP : va_P G.1 vwCl (va_pl L f) H) {n : Nat} {g : Nat → Int32} (he : wy_c L f a (.inl (G.2 0, n, .inl g))) {i : Int32} (k : Nat) (hi : i = nI k) (hk : k < n) (hn : n < 2 ^ 31) (hdg : decode cc pc = .ok (.iaload, 1))
    (kk : W p l e R s m args below meth c H locs cells slots Q (F0 m (pc + 1) ls (.int (g k) :: rest))) : W p l e R s m args below meth c H locs cells slots Q (F0 m pc ls (.int i :: .ref a :: rest)) := by
  obtain ⟨q0, -, hq⟩ := wy_at he
  subst hi
  refine va_iald hexec hb hK hP q0 0 hq rfl (vp_in_nI hk hn) hdg ?_
  rw [nI_clamp (by omega)]
  exact kk
theorem wy_iast (hexec : p.tables.exec = Jvm.exec) (hb : c.code = cc) (hK : wy_K G s) (hw : wy_H G L f A H0 H locs) {n : Nat} {g : Nat → Int32} (he : wy_c L f a (.inl (G.2 0, n, .inl g))) {i x : Int32} (k : Nat) (hi : i = nI k) (hk : k < n) (hn : n < 2 ^ 31) (hdg : decode cc pc = .ok (.iastore, 1))
    (kk : ∀ (H1 : Heap) (locs1 : List Loc) (f1 : Nat → va_E), wy_c L f1 a (.inl (G.2 0, n, .inl (upd g k x))) → (∀ b, b ≠ a → f1 b = f b) → wy_H G L f1 A H0 H1 locs1 → W p l e R s m args below meth c H1 locs1 cells slots Q (F0 m (pc + 1) ls rest)) : W p l e R s m args below meth c H locs cells slots Q (F0 m pc ls (.int x :: .int i :: .ref a :: rest)) := by
  obtain ⟨q0, hq0, hq⟩ := wy_at he
  obtain ⟨hP, hD, hS⟩ := hw
  subst hi
  refine va_iast hexec hb hK hP hD hS q0 0 hq rfl (vp_in_nI hk hn) hdg (fun H1 locs1 hP1 hD1 hS1 => ?_)
  have hset := va_pl_set (X := []) (e := .inl (G.2 0, n, .inl (upd g (nI k).toNatClampNeg x))) hD he.1 hq0
  rw [List.nil_append, List.nil_append] at hset
  rw [hset] at hP1 hD1
  rw [nI_clamp (by omega)] at hP1 hD1
  exact kk H1 locs1 _ he.self (fun b h => va_up_ne _ _ h) ⟨hP1, hD1, hS1⟩
theorem wy_alen (hexec : p.tables.exec = Jvm.exec) (hb : c.code = cc) (hK : wy_K G s) (hP : va_P G.1 vwCl (va_pl L f) H) {t0 : Nat} {ty : FieldType} {cA : ClassId} {x : vp_A} (he : wy_c L f a (.inl (cA, x))) (ht : (wy_ty G)[t0]? = some (cA, ty)) (hdg : decode cc pc = .ok (.arraylength, 1))
    (kk : W p l e R s m args below meth c H locs cells slots Q (F0 m (pc + 1) ls (.int (nI x.1) :: rest))) : W p l e R s m args below meth c H locs cells slots Q (F0 m pc ls (.ref a :: rest)) := by
  obtain ⟨q0, -, hq⟩ := wy_at he
  exact va_alen hexec hb hK hP q0 t0 hq ht rfl hdg kk
theorem wy_aald (hexec : p.tables.exec = Jvm.exec) (hb : c.code = cc) (hK : wy_K G s) (hP : va_P G.1 vwCl (va_pl L f) H) {n : Nat} {g : Nat → Option Nat} (he : wy_c L f a (.inl (G.2 2, n, .inr (.inr (.inr (.inr g)))))) {i : Int32} (k : Nat) (hi : i = nI k) (hk : k < n) (hn : n < 2 ^ 31) (hdg : decode cc pc = .ok (.aaload, 1))
    (kk : W p l e R s m args below meth c H locs cells slots Q (F0 m (pc + 1) ls (va_rf (g k) :: rest))) : W p l e R s m args below meth c H locs cells slots Q (F0 m pc ls (.int i :: .ref a :: rest)) := by
  obtain ⟨q0, -, hq⟩ := wy_at he
  subst hi
  refine va_aldq hexec hb hK hP q0 2 hq rfl (vp_in_nI hk hn) hdg ?_
  rw [nI_clamp (by omega)]
  exact kk
theorem wy_c.ne2 {f1 : Nat → va_E} {b : Nat} {x : va_E} (h : wy_c L f b x) (hn : ∀ z, z ≠ a → f1 z = f z) (n : b ≠ a) : wy_c L f1 b x := ⟨h.1, (hn b n).trans h.2⟩
/-- a receiver -/
theorem wy_recv {C : String} {T : u_T} {N ci : Nat} {fs : List Value} (hK : wy_K G s) (hP : va_P G.1 vwCl (va_pl L f) H) (he : wy_c L f a (.inr (ci, fs))) (hc : vwCl[ci]? = some (C, T, N)) : ∃ cell : Cell, H[a]? = some cell ∧ cell.vm.isStatics = false ∧ s.vm.findClass C = some cell.cls := by
  obtain ⟨q0, -, hq⟩ := wy_at he
  exact va_recv hK hP hc hq
theorem wy_blR {av : List Value} : FrameBlind (va_Pc av (wy_R G L f)) := fun a U g mk q => by
  obtain ⟨q0, qP, qK⟩ := q
  exact ⟨q0, qP, wy_K.moved (u := U) (U := U.calling g mk a) (Vm.Alike.refl U.vm) qK⟩
theorem wy_blW {av : List Value} {sz : Nat} : FrameBlind (va_Pc av (wy_W G L f sz)) := fun a U g mk q => by
  obtain ⟨q0, q1, qP, qK, qD⟩ := q
  exact ⟨q0, q1, qP, wy_K.moved (u := U) (U := U.calling g mk a) (Vm.Alike.refl U.vm) qK, qD⟩
theorem wy_pVR {C : String} {T : u_T} {N ci : Nat} {fs As : List Value} (hK : wy_K G s) (hP : va_P G.1 vwCl (va_pl L f) H) (he : wy_c L f a (.inr (ci, fs))) (hc : vwCl[ci]? = some (C, T, N)) : PreV s H C a (va_Pc (.ref a :: As) (wy_R G L f)) As :=
  ⟨wy_blR, wy_recv hK hP he hc, fun U hU hW => ⟨rfl, by rw [hU]; exact hP, wy_K.moved hW.alike hK⟩⟩
theorem wy_pSR {As : List Value} (hK : wy_K G s) (hP : va_P G.1 vwCl (va_pl L f) H) : PreS s H (va_Pc As (wy_R G L f)) As :=
  ⟨wy_blR, fun U hU hW => ⟨rfl, by rw [hU]; exact hP, wy_K.moved hW.alike hK⟩⟩
theorem wy_pSN {As : List Value} : PreS s H (va_Pc As (fun _ => True)) As :=
  ⟨fun _ _ _ _ q => q, fun U hU hW => ⟨rfl, trivial⟩⟩
theorem wy_toW {U : State} (hK : wy_K G s) (hw : wy_H G L f A H0 H locs) (hU : U.heap = H) (hW : s.WarmedH U.vm) : wy_W G L f H.size U :=
  ⟨by rw [hU], by rw [hU]; exact hw.1, wy_K.moved hW.alike hK, hw.2.1.weaken (fun _ _ _ _ => trivial)⟩
theorem wy_pVW {C : String} {T : u_T} {N ci : Nat} {fs As : List Value} (hK : wy_K G s) (hw : wy_H G L f A H0 H locs) (he : wy_c L f a (.inr (ci, fs))) (hc : vwCl[ci]? = some (C, T, N)) : PreV s H C a (va_Pc (.ref a :: As) (wy_W G L f H.size)) As :=
  ⟨wy_blW, wy_recv hK hw.1 he hc, fun U hU hW => ⟨rfl, wy_toW hK hw hU hW⟩⟩
theorem wy_pSW {As : List Value} (hK : wy_K G s) (hw : wy_H G L f A H0 H locs) : PreS s H (va_Pc As (wy_W G L f H.size)) As :=
  ⟨wy_blW, fun U hU hW => ⟨rfl, wy_toW hK hw hU hW⟩⟩
/-- behind a call of a method that writes -/
theorem wy_call {mc ms : Nat} {av : Array Value} {post : Option Value → List Nat → (Nat → va_E) → Prop} (hr : va_Run p l e R s m args below meth c H locs cells slots mc ms (F0 m pc ls st0) rest (wy_Q G post (wy_A L H.size) av) (wy_A L H.size)) (hw : wy_H G L f A H0 H locs) (hA : ∀ q, H0.size ≤ q → A q)
    (kk : ∀ (r : Option Value) (L' : List Nat) (f' : Nat → va_E) (H1 : Heap) (locs1 : List Loc), post r L' f' → wy_H G L' f' A H0 H1 locs1 → W p l e R s m args below meth c H1 locs1 (cells + mc) (slots + ms) Q (F0 m (pc + 3) ls (r.toList ++ rest))) : W p l e R s m args below meth c H locs cells slots Q (F0 m pc ls st0) := by
  intro T hT X
  obtain ⟨v, st₀, t, T', Ls, h0, X', hL, e1, e2, ⟨⟨r, L', f', hv, hp, hPt, hDt⟩, hz, hk⟩, st⟩ := hr T hT X
  cases hv
  rw [h0] at hz hk
  have hsub := hw.sub hA
  obtain ⟨hP, hD, hS⟩ := hw
  obtain ⟨t2, a1, b1⟩ := kk v L' f' T'.heap (locs ++ Ls) hp ⟨by rw [e1]; exact hPt, hDt.weaken (fun _ q _ h => hsub q.1 h), Nat.le_trans hS.1 (by rw [e1]; exact hz), fun q h1 h2 => by
      rw [e1, hk q (Nat.lt_of_lt_of_le h1 hS.1) (fun z => h2 (hsub q z))]; exact hS.2.1 q h1 h2, fun q hq => by
      rcases List.mem_append.mp hq with h | h
      · exact hS.2.2 q h
      · exact hsub _ (hL q h)⟩ T' rfl X'
  exact ⟨t2, st t2 a1, b1⟩
/-- the ends -/
theorem wy_iR {v r : Int32} (h : r = v) (hexec : p.tables.exec = Jvm.exec) (hb : c.code = cc) (hr : meth.sig.returnType = some .int) (hlocks : meth.locks = false) (hdg : decode cc pc = .ok (.ireturn, 1)) : W p l e R s m args below meth c s.heap [] cells slots (MQ below (vp_Si (fun z => z = v)) args s cells slots (fun _ => False)) (F0 m pc ls [.int r]) :=
  W.iret hexec hb hr (fun t ht hW => ⟨r, rfl, h, ht⟩) (fun q hq => absurd hq List.not_mem_nil) hdg hlocks
def bI (b : Bool) : Int32 := if b then 1 else 0
theorem bI_t : bI true = 1 := rfl
theorem bI_f : bI false = 0 := rfl
theorem bI_nar (b : Bool) : narrow .boolean (.int (bI b)) = .int (bI b) := by cases b <;> rfl
theorem bI_fit (b : Bool) : fits .boolean (.int (bI b)) = true := by cases b <;> rfl
theorem bI_0 {b : Bool} (h : bI b = 0) : b = false := by cases b <;> first | rfl | (exact absurd h (by decide))
theorem bI_1 {b : Bool} (h : ¬ bI b = 0) : b = true := by cases b <;> first | rfl | (exact absurd rfl h)
theorem wy_zR {b : Bool} {r : Int32} (h : r = bI b) (hexec : p.tables.exec = Jvm.exec) (hb : c.code = cc) (hr : meth.sig.returnType = some .boolean) (hlocks : meth.locks = false) (hdg : decode cc pc = .ok (.ireturn, 1)) : W p l e R s m args below meth c s.heap [] cells slots (MQ below (vp_Si (fun z => z = bI b)) args s cells slots (fun _ => False)) (F0 m pc ls [.int r]) := by
  subst h
  exact W.zret hexec hb hr (bI_nar b) (fun t ht hW => ⟨_, rfl, rfl, ht⟩) (fun q hq => absurd hq List.not_mem_nil) hdg hlocks
theorem wy_iW {r : Int32} {L0 : List Nat} {sz mc ms : Nat} {post : Option Value → List Nat → (Nat → va_E) → Prop} (hexec : p.tables.exec = Jvm.exec) (hb : c.code = cc) (hr : meth.sig.returnType = some .int) (hlocks : meth.locks = false) (hdg : decode cc pc = .ok (.ireturn, 1)) (hw : wy_H G L f (wy_A L0 sz) s.heap H locs) (hc : cells ≤ mc) (hs : slots ≤ ms) (h : post (some (.int r)) L f) : W p l e R s m args below meth c H locs cells slots (MQ below (wy_Q G post (wy_A L0 sz)) args s mc ms (wy_A L0 sz)) (F0 m pc ls [.int r]) :=
  W.widen hc hs (W.iret hexec hb hr (fun t ht hW => ⟨⟨some (.int r), L, f, rfl, h, by rw [ht]; exact hw.1, hw.2.1⟩, hw.2.2.F ht⟩) hw.2.2.2.2 hdg hlocks)
theorem wy_zW {b : Bool} {r : Int32} {L0 : List Nat} {sz mc ms : Nat} {post : Option Value → List Nat → (Nat → va_E) → Prop} (hb1 : r = bI b) (hexec : p.tables.exec = Jvm.exec) (hb : c.code = cc) (hr : meth.sig.returnType = some .boolean) (hlocks : meth.locks = false) (hdg : decode cc pc = .ok (.ireturn, 1)) (hw : wy_H G L f (wy_A L0 sz) s.heap H locs) (hc : cells ≤ mc) (hs : slots ≤ ms) (h : post (some (.int (bI b))) L f) : W p l e R s m args below meth c H locs cells slots (MQ below (wy_Q G post (wy_A L0 sz)) args s mc ms (wy_A L0 sz)) (F0 m pc ls [.int r]) := by
  subst hb1
  exact W.widen hc hs (W.zret hexec hb hr (bI_nar b) (fun t ht hW => ⟨⟨some (.int (bI b)), L, f, rfl, h, by rw [ht]; exact hw.1, hw.2.1⟩, hw.2.2.F ht⟩) hw.2.2.2.2 hdg hlocks)
theorem wy_vW {L0 : List Nat} {sz mc ms : Nat} {post : Option Value → List Nat → (Nat → va_E) → Prop} (hexec : p.tables.exec = Jvm.exec) (hb : c.code = cc) (hr : meth.sig.returnType = none) (hlocks : meth.locks = false) (hdg : decode cc pc = .ok (.return_, 1)) (hw : wy_H G L f (wy_A L0 sz) s.heap H locs) (hc : cells ≤ mc) (hs : slots ≤ ms) (h : post none L f) : W p l e R s m args below meth c H locs cells slots (MQ below (wy_Q G post (wy_A L0 sz)) args s mc ms (wy_A L0 sz)) (F0 m pc ls []) :=
  W.widen hc hs (W.vret hexec hb hr (fun t ht hW => ⟨⟨none, L, f, rfl, h, by rw [ht]; exact hw.1, hw.2.1⟩, hw.2.2.F ht⟩) hw.2.2.2.2 hdg hlocks)
end WY
