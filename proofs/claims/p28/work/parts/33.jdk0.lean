/-! WHAT THE LIST NEEDS of the state: the empty array that all lists begin with, and what the tables say -/
def wl_E (G : wy_G) (A : Nat → Prop) (U : State) : Prop :=
  va_Z "java/util/ArrayList" "DEFAULTCAPACITY_EMPTY_ELEMENTDATA" "[Ljava/lang/Object;" (.ref (G.2 5)) A U U.heap ∧ va_T (.object "java/lang/Object") (G.2 5) 0 (fun _ => .null) A U U.heap ∧ va_Nw (.castable "Wheelpay$Ride" "java/lang/Object") U ∧ va_Dc U ∧ va_AO "java/lang/Object" U ∧ ∃ mi : Nat, va_Mi "[Ljava/lang/Object;" mi U
theorem wl_E.at {G : wy_G} {A B : Nat → Prop} {s U : State} {H : Heap} {locs : List Loc} (h : wl_E G A s) (hS : va_S A s.heap H locs) (hU : U.heap = H) (hW : s.WarmedH U.vm) (hAB : ∀ q, B q → A q) : wl_E G B U := by
  obtain ⟨h1, h2, h3, h4, h5, mi, h6⟩ := h
  refine ⟨?_, ?_, va_Nw.warmC hW h3, h4.moved hW.alike, h5.moved hW.alike, mi, h6.moved hW.alike⟩
  · rw [hU]; exact ((h1.kept hS.2.1).moved hW.alike).narrow hAB
  · rw [hU]; exact ((h2.kept hS.2.1).moved hW.alike).narrow hAB
theorem wl_E.calling {G : wy_G} {A : Nat → Prop} {U : State} {g : JFrame} {mk : MethodId} {a : Array Value} (h : wl_E G A U) : wl_E G A (U.calling g mk a) := by
  obtain ⟨h1, h2, h3, h4, h5, mi, h6⟩ := h
  have e : (U.calling g mk a).vm = U.vm := rfl
  have ha : U.vm.Alike (U.calling g mk a).vm := Vm.Alike.refl U.vm
  exact ⟨va_Z.moved (u := U) (U := U.calling g mk a) ha h1, va_T.moved (u := U) (U := U.calling g mk a) ha h2, va_Nw.same rfl e.symm h3, h4.moved ha, h5.moved ha, mi, h6.moved ha⟩
def wl_P (G : wy_G) (L : List Nat) (f : Nat → va_E) (sz : Nat) (U : State) : Prop := wy_W G L f sz U ∧ wl_E G (wy_A L sz) U
theorem wl_bl {G : wy_G} {L : List Nat} {f : Nat → va_E} {av : List Value} {sz : Nat} : FrameBlind (va_Pc av (wl_P G L f sz)) := fun a U g mk q => by
  obtain ⟨q0, ⟨q1, qP, qK, qD⟩, qE⟩ := q
  exact ⟨q0, ⟨q1, qP, wy_K.moved (u := U) (U := U.calling g mk a) (Vm.Alike.refl U.vm) qK, qD⟩, qE.calling⟩
section WL
variable {p : Program} {l : Launch} {e : Env} {R : Room} {s : State} {m : MethodId} {args : Array Value} {below : List Frame} {meth : Method} {c : Code} {H : Heap} {locs : List Loc} {cells slots : Nat} {Q : State → Prop}
variable {cc : ByteArray} {pc : Nat} {ls : Array Slot} {rest st0 : List Value} {A : Nat → Prop} {a : Nat} {H0 : Heap} {G : wy_G} {L : List Nat} {f : Nat → va_E}
theorem wl_pV {C : String} {T : u_T} {N ci : Nat} {fs As : List Value} (hK : wy_K G s) (hE : wl_E G A s) (hw : wy_H G L f A s.heap H locs) (hA : ∀ q, s.heap.size ≤ q → A q) (he : wy_c L f a (.inr (ci, fs))) (hc : vwCl[ci]? = some (C, T, N)) : PreV s H C a (va_Pc (.ref a :: As) (wl_P G L f H.size)) As :=
  ⟨wl_bl, wy_recv hK hw.1 he hc, fun U hU hW => ⟨rfl, wy_toW hK hw hU hW, hE.at hw.2.2 hU hW (hw.sub hA)⟩⟩
theorem wl_pS {As : List Value} (hK : wy_K G s) (hE : wl_E G A s) (hw : wy_H G L f A s.heap H locs) (hA : ∀ q, s.heap.size ≤ q → A q) : PreS s H (va_Pc As (wl_P G L f H.size)) As :=
  ⟨wl_bl, fun U hU hW => ⟨rfl, wy_toW hK hw hU hW, hE.at hw.2.2 hU hW (hw.sub hA)⟩⟩
theorem wy_newq (hexec : p.tables.exec = Jvm.exec) (hb : c.code = cc) {own : String} {index : Nat} (hown : s.vm.findClass own = some m.cls) (hclink : (Cond.classLink own index "java/lang/Object").before args s = true) (hover : va_AO "java/lang/Object" s) (hK : wy_K G s) (hw : wy_H G L f A H0 H locs) (hA : ∀ q, H0.size ≤ q → A q) {x : Int32} (n : Nat) (hx : x = nI n) (hn : n ≤ 1000) (hcells : cells + 1 ≤ R.cells) (hslots : slots + n ≤ R.slots) (hdg : decode cc pc = .ok (.anewarray index, 3))
    (kk : ∀ (q : Nat) (H1 : Heap) (f1 : Nat → va_E), q ∉ L → wy_c (L ++ [q]) f1 q (.inl (G.2 2, n, .inr (.inr (.inr (.inr (fun _ => none)))))) → (∀ b, b ≠ q → f1 b = f b) → wy_H G (L ++ [q]) f1 A H0 H1 locs → W p l e R s m args below meth c H1 locs (cells + 1) (slots + n) Q (F0 m (pc + 3) ls (.ref q :: rest))) : W p l e R s m args below meth c H locs cells slots Q (F0 m pc ls (.int x :: rest)) := by
  obtain ⟨hP, hD, hS⟩ := hw
  subst hx
  refine va_newq (N' := n) hexec hb hown hclink hover hK hP hD hS hA (nI_pos (by omega)) (nI_clamp (by omega)) (by omega) hcells hslots hdg (fun q cA H1 hK1 hP1 hD1 hS1 => ?_)
  have e : cA = G.2 2 := by
    have h1 := (hK1.2 5 (cA, .object "java/lang/Object") rfl).2
    have h0 := (hK.2 2 (G.2 2, .object "java/lang/Object") rfl).2
    obtain ⟨_, _, _, _, _, h1⟩ := h1
    obtain ⟨_, _, _, _, _, h0⟩ := h0
    exact Option.some.inj (h1.symm.trans h0)
  subst e
  obtain ⟨hq, h2, h3⟩ := wy_grow hD hP1 hD1 hS1
  exact kk q H1 _ hq h2 (fun b hb => va_up_ne _ _ hb) h3
theorem wy_aast (hexec : p.tables.exec = Jvm.exec) (hb : c.code = cc) (hK : wy_K G s) (hw : wy_H G L f A H0 H locs) {n v ci : Nat} {g : Nat → Option Nat} {r : vw_C} {vs : List Value} (he : wy_c L f a (.inl (G.2 2, n, .inr (.inr (.inr (.inr g)))))) (hv : wy_c L f v (.inr (ci, vs))) (hc : vwCl[ci]? = some r) (hca : va_Nw (.castable r.1 "java/lang/Object") s) {i : Int32} (k : Nat) (hi : i = nI k) (hk : k < n) (hn : n < 2 ^ 31) (hdg : decode cc pc = .ok (.aastore, 1))
    (kk : ∀ (H1 : Heap) (locs1 : List Loc) (f1 : Nat → va_E), wy_c L f1 a (.inl (G.2 2, n, .inr (.inr (.inr (.inr (va_up g k (some v))))))) → (∀ b, b ≠ a → f1 b = f b) → wy_H G L f1 A H0 H1 locs1 → W p l e R s m args below meth c H1 locs1 cells slots Q (F0 m (pc + 1) ls rest)) : W p l e R s m args below meth c H locs cells slots Q (F0 m pc ls (.ref v :: .int i :: .ref a :: rest)) := by
  obtain ⟨q0, hq0, hq⟩ := wy_at he
  obtain ⟨qk, -, hqk⟩ := wy_at hv
  obtain ⟨hP, hD, hS⟩ := hw
  subst hi
  refine va_astqO hexec hb hK hP hD hS q0 2 qk ci hq rfl hca hqk hc (vp_in_nI hk hn) hdg (fun H1 locs1 hP1 hD1 hS1 => ?_)
  have hset := va_pl_set (X := []) (e := .inl (G.2 2, n, .inr (.inr (.inr (.inr (va_up g (nI k).toNatClampNeg (some v))))))) hD he.1 hq0
  rw [List.nil_append, List.nil_append] at hset
  rw [hset] at hP1 hD1
  rw [nI_clamp (by omega)] at hP1 hD1
  exact kk H1 locs1 _ he.self (fun b h => va_up_ne _ _ h) ⟨hP1, hD1, hS1⟩
theorem wy_copy (hexec : p.tables.exec = Jvm.exec) (hb : c.code = cc) (hml : c.maxLocals = ls.size) {own : String} {index : Nat} (hown : s.vm.findClass own = some m.cls) (hlink : (Cond.methodLink own index arraycopyName).before args s = true) (hnat : (Cond.native arraycopyName).before args s = true) (hstat : (Cond.static arraycopyName).before args s = true) (hini : (Cond.initialized "java/lang/System").before args s = true)
    (hK : wy_K G s) (hw : wy_H G L f A H0 H locs) {a0 n0 n1 : Nat} {g0 g1 : Nat → Option Nat} (he0 : wy_c L f a0 (.inl (G.2 2, n0, .inr (.inr (.inr (.inr g0)))))) (he1 : wy_c L f a (.inl (G.2 2, n1, .inr (.inr (.inr (.inr g1)))))) (hca : va_Nw (.castable "Wheelpay$Ride" "java/lang/Object") s) {n : Int32} (k : Nat) (hn : n = nI k) (hk0 : k ≤ n0) (hk1 : k ≤ n1) (hk : k ≤ 1000) (hel : ∀ i, i < k → ∀ y, g0 i = some y → ∃ fs, wy_c L f y (.inr (1, fs)))
    (hframes : 1 ≤ R.frames) (hlocals : (rest.map fun v => v.category).sum + (nativeFrameWords "java/lang/System" "arraycopy" 5 + 11) ≤ R.locals) (hdg : decode cc pc = .ok (.invokestatic index, 3))
    (kk : ∀ (H1 : Heap) (locs1 : List Loc) (f1 : Nat → va_E), wy_c L f1 a (.inl (G.2 2, n1, .inr (.inr (.inr (.inr (va_cpy g0 g1 0 0 k)))))) → (∀ b, b ≠ a → f1 b = f b) → wy_H G L f1 A H0 H1 locs1 → W p l e R s m args below meth c H1 locs1 cells slots Q (F0 m (pc + 3) ls rest)) : W p l e R s m args below meth c H locs cells slots Q (F0 m pc ls (.int n :: .int 0 :: .ref a :: .int 0 :: .ref a0 :: rest)) := by
  obtain ⟨q0, -, hq0⟩ := wy_at he0
  obtain ⟨q1, hq1, hq1'⟩ := wy_at he1
  have hw' := hw
  obtain ⟨hP, hD, hS⟩ := hw
  subst hn
  have ek : (nI k).toNatClampNeg = k := nI_clamp (by omega)
  have e0 : (0 : Int32).toNatClampNeg = 0 := rfl
  refine va_copyq (C := "Wheelpay$Ride") hexec hb hml hown hlink hnat hstat hini hK hP hD hS q0 q1 2 2 hq0 hq1' rfl rfl (by decide) (by decide) (nI_pos (by omega)) (by rw [ek, e0]; omega) (by rw [ek, e0]; omega) (fun i hi y hy => ?_) (fun comp c0 h1 h2 => ?_) hframes hlocals hdg (fun H1 locs1 hP1 hD1 hS1 => ?_)
  · rw [ek] at hi
    rw [e0, Nat.zero_add] at hy
    obtain ⟨fs, hfs⟩ := hel i hi y hy
    exact wy_recv hK hw'.1 hfs rfl
  · obtain ⟨c1, t1, f1, f2, f3⟩ := Cond.castable_spec (va_Nw.use (A := args) rfl hca)
    cases h2.symm.trans f1
    cases h1.symm.trans f2
    exact f3
  · rw [ek, e0] at hP1 hD1
    have hset := va_pl_set (X := []) (e := .inl (G.2 2, n1, .inr (.inr (.inr (.inr (va_cpy g0 g1 0 0 k)))))) hD he1.1 hq1
    rw [List.nil_append, List.nil_append] at hset
    rw [hset] at hP1 hD1
    exact kk H1 locs1 _ he1.self (fun b h => va_up_ne _ _ h) ⟨hP1, hD1, hS1⟩
/-- an array's class -/
theorem wy_acls {n : Nat} {g : Nat → Option Nat} (hK : wy_K G s) (hP : va_P G.1 vwCl (va_pl L f) H) (he : wy_c L f a (.inl (G.2 2, n, .inr (.inr (.inr (.inr g)))))) : ∃ cell : Cell, H[a]? = some cell ∧ cell.vm.isStatics = false ∧ s.vm.findClass "[Ljava/lang/Object;" = some cell.cls := by
  obtain ⟨q0, -, hq⟩ := wy_at he
  have h := hP q0 _ hq
  exact ⟨_, h, rfl, va_nmO (hK.2 2 (G.2 2, .object "java/lang/Object") rfl).2 (by decide +kernel)⟩
end WL
