/-! WHAT A THROW NEEDS of the state, and the methods that throw -/
def wt_xs : List String := ["java/lang/IndexOutOfBoundsException", "java/lang/IllegalArgumentException", "java/lang/IllegalStateException"]
def wt_nm : List String := ["java/lang/RuntimeException", "java/lang/Exception"]
def wt_ys : List String := ["java/lang/RuntimeException", "java/lang/Exception", "java/lang/Throwable"]
def wt_st : List (Nat × String) := [(44, "there have been 40 rides"), (53, "a ride of the driver is under way"), (74, "the rider has a seat"), (79, "no seat is free"), (84, "the rider has no booked seat"), (90, "the rider is aboard"), (92, "no seat is booked and none is free"), (97, "the rider is not aboard"), (136, "the ride is under way"), (138, "the charge is 0"), (143, "the charge has been disputed"), (148, "the charge has not been disputed"), (153, "the dispute is settled"), (166, "20 weeks have been closed"), (171, "a ride is under way"), (198, "the rider was charged for no finished ride"), (226, "no such ride"), (229, "the ride is not under way"), (231, "no such rider"), (233, "no such driver"), (237, "out of range")]
def wt_E (A : Nat → Prop) (U : State) : Prop :=
  vx_Zq Bundle.tN "UNASSIGNED_STACK" Bundle.steD A U U.heap ∧ vx_Zq Bundle.tN "SUPPRESSED_SENTINEL" Bundle.listD A U U.heap ∧ (∀ X ∈ wt_xs, va_Nw (.castable X X) U) ∧ (∀ X ∈ wt_ys, va_Nw (.declares (Bundle.initS X)) U) ∧ ∀ q ∈ wt_st, ∃ a, vk_R RX1 q.1 q.2 a U
theorem wt_E.at {A B : Nat → Prop} {s U : State} {H : Heap} {locs : List Loc} (h : wt_E A s) (hS : va_S A s.heap H locs) (hU : U.heap = H) (hW : s.WarmedH U.vm) (hAB : ∀ q, B q → A q) : wt_E B U := by
  obtain ⟨h1, h2, h3, h4, h5⟩ := h
  refine ⟨?_, ?_, fun X hX => va_Nw.warmC hW (h3 X hX), fun X hX => va_Nw.warmD hW (h4 X hX), fun q hq => ?_⟩
  · rw [hU]; exact ((h1.kept hS.2.1).moved hW.alike).narrow hAB
  · rw [hU]; exact ((h2.kept hS.2.1).moved hW.alike).narrow hAB
  · obtain ⟨a, ha⟩ := h5 q hq; exact ⟨a, vk_R.warm hW ha⟩
theorem wt_E.calling {A : Nat → Prop} {U : State} {g : JFrame} {mk : MethodId} {a : Array Value} (h : wt_E A U) : wt_E A (U.calling g mk a) := by
  obtain ⟨h1, h2, h3, h4, h5⟩ := h
  have e : (U.calling g mk a).vm = U.vm := rfl
  exact ⟨vx_Zq.moved (u := U) (U := U.calling g mk a) (Vm.Alike.refl U.vm) h1, vx_Zq.moved (u := U) (U := U.calling g mk a) (Vm.Alike.refl U.vm) h2, fun X hX => va_Nw.same rfl e.symm (h3 X hX), fun X hX => va_Nw.same rfl e.symm (h4 X hX), fun q hq => by obtain ⟨z, hz⟩ := h5 q hq; exact ⟨z, vk_R.same e hz⟩⟩
/-- what a method that may throw is given -/
def wt_P (G : wy_G) (L : List Nat) (f : Nat → va_E) (sz : Nat) (U : State) : Prop := wy_W G L f sz U ∧ wt_E (wy_A L sz) U
/-- .. and where it has thrown: nothing of the world has changed -/
def wt_X (G : wy_G) (px : String → Prop) (L : List Nat) (f : Nat → va_E) (A : Nat → Prop) : String → State → State → Prop := fun E st t => px E ∧ va_P G.1 vwCl (va_pl L f) t.heap ∧ va_F A st t
theorem wt_bl {G : wy_G} {L : List Nat} {f : Nat → va_E} {av : List Value} {sz : Nat} : FrameBlind (va_Pc av (wt_P G L f sz)) := fun a U g mk q => by
  obtain ⟨q0, ⟨q1, qP, qK, qD⟩, qE⟩ := q
  exact ⟨q0, ⟨q1, qP, wy_K.moved (u := U) (U := U.calling g mk a) (Vm.Alike.refl U.vm) qK, qD⟩, qE.calling⟩
section WT
variable {p : Program} {l : Launch} {e : Env} {R : Room} {s : State} {m : MethodId} {args : Array Value} {below : List Frame} {meth : Method} {c : Code} {H : Heap} {locs : List Loc} {cells slots : Nat} {Q : State → Prop}
variable {cc : ByteArray} {pc : Nat} {ls : Array Slot} {rest st0 : List Value} {A : Nat → Prop} {a : Nat} {H0 : Heap} {G : wy_G} {L : List Nat} {f : Nat → va_E}
theorem wt_pV {C : String} {T : u_T} {N ci : Nat} {fs As : List Value} (hK : wy_K G s) (hE : wt_E A s) (hw : wy_H G L f A s.heap H locs) (hA : ∀ q, s.heap.size ≤ q → A q) (he : wy_c L f a (.inr (ci, fs))) (hc : vwCl[ci]? = some (C, T, N)) : PreV s H C a (va_Pc (.ref a :: As) (wt_P G L f H.size)) As :=
  ⟨wt_bl, wy_recv hK hw.1 he hc, fun U hU hW => ⟨rfl, wy_toW hK hw hU hW, hE.at hw.2.2 hU hW (hw.sub hA)⟩⟩
theorem wt_pS {As : List Value} (hK : wy_K G s) (hE : wt_E A s) (hw : wy_H G L f A s.heap H locs) (hA : ∀ q, s.heap.size ≤ q → A q) : PreS s H (va_Pc As (wt_P G L f H.size)) As :=
  ⟨wt_bl, fun U hU hW => ⟨rfl, wy_toW hK hw hU hW, hE.at hw.2.2 hU hW (hw.sub hA)⟩⟩
/-- a throw of our own -/
theorem wt_throw {ik is ic mc ms sz : Nat} {cls text : String} {px : String → Prop} {Qc : Array Value → State → Outcome → State → Prop} (hgd : ∀ w ∈ Cond.classLink RX1 ik cls :: Cond.initialized cls :: vx_atS RX1 ic cls wt_nm, vx_ot w = true) (hnb : ∀ w ∈ (vx_atS RX1 ic cls wt_nm).filter (fun w => !goodWord w), w ∈ [Cond.castable cls cls, Cond.declares (Bundle.initS "java/lang/RuntimeException"), Cond.declares (Bundle.initS "java/lang/Exception"), Cond.declares (Bundle.initS "java/lang/Throwable")])
    (hcls : cls ∈ wt_xs) (hfit : Bundle.fit cls = true) (hexec : p.tables.exec = Jvm.exec) (hb : c.code = cc) (hl : l.stackTraces = false) (hown : s.vm.findClass RX1 = some m.cls) (hst : (is, text) ∈ wt_st)
    (hk : (Cond.classLink RX1 ik cls).before args s = true) (hini : (Cond.initialized cls).before args s = true) (hat : ∀ w ∈ (vx_atS RX1 ic cls wt_nm).filter goodWord, w.before args s = true)
    (hE : wt_E (wy_A L sz) s) (hw : wy_H G L f (wy_A L sz) s.heap H locs) (hsize : ls.size = c.maxLocals)
    (d0 : decode cc pc = .ok (.new ik, 3)) (d3 : decode cc (pc + 3) = .ok (.dup, 1)) (d4 : decode cc (pc + 4) = .ok (.ldc is, 2)) (d6 : decode cc (pc + 6) = .ok (.invokespecial ic, 3)) (d9 : decode cc (pc + 9) = .ok (.athrow, 1))
    (hno : ∀ x ∈ c.exceptionTable.toList, False)
    (hRf : 5 < R.frames) (hRl : (rest.map fun v => v.category).sum + 82 ≤ R.locals) (hRc : cells + 1 ≤ R.cells) (hRs : slots + 6 ≤ R.slots) (hlocks : meth.locks = false) (hc : cells + 1 ≤ mc) (hs : slots + 6 ≤ ms) (hpx : px cls) :
    W p l e R s m args below meth c H locs cells slots (vx_MQ below Qc (wt_X G px L f (wy_A L sz)) args s mc ms (wy_A L sz)) (F0 m pc ls rest) := by
  obtain ⟨h1, h2, h3, h4, h5⟩ := hE
  obtain ⟨sa, hsa⟩ := h5 (is, text) hst
  refine vx_throwS (own := RX1) (cls := cls) (text := text) (names := wt_nm) (ik := ik) (is := is) (ic := ic) (sa := sa) (A := wy_A L sz) hexec hb hl hown hfit (by decide +kernel) hk hini hsa ?_ hgd h1 h2 hw.2.2 hsize d0 d3 d4 d6 d9 (fun x hx => (hno x hx).elim) hRf hRl hRc hRs hlocks ?_ hw.2.2.2.2 hc hs
  · exact vx_hat hat hnb (vx_c (va_Nw.use rfl (h3 cls hcls)) (vx_c (va_Nw.use rfl (h4 _ (by decide))) (vx_c (va_Nw.use rfl (h4 _ (by decide))) (vx_c (va_Nw.use rfl (h4 _ (by decide))) vx_n))))
  · intro t hal hz hkp
    refine ⟨hpx, hw.1.kept (fun k q hq => hkp _ ((hw.1 k q hq).lt)), Nat.le_trans hw.2.2.1 hz, fun q h6 h7 => ?_⟩
    rw [hkp q (Nat.lt_of_lt_of_le h6 hw.2.2.1)]
    exact hw.2.2.2.1 q h6 h7
theorem wt_gdI : ∀ w ∈ Cond.classLink RX1 224 "java/lang/IndexOutOfBoundsException" :: Cond.initialized "java/lang/IndexOutOfBoundsException" :: vx_atS RX1 228 "java/lang/IndexOutOfBoundsException" wt_nm, vx_ot w = true := by decide +kernel
theorem wt_gdA : ∀ w ∈ Cond.classLink RX1 235 "java/lang/IllegalArgumentException" :: Cond.initialized "java/lang/IllegalArgumentException" :: vx_atS RX1 239 "java/lang/IllegalArgumentException" wt_nm, vx_ot w = true := by decide +kernel
theorem wt_gdS : ∀ w ∈ Cond.classLink RX1 42 "java/lang/IllegalStateException" :: Cond.initialized "java/lang/IllegalStateException" :: vx_atS RX1 46 "java/lang/IllegalStateException" wt_nm, vx_ot w = true := by decide +kernel
theorem wt_nbI : ∀ w ∈ (vx_atS RX1 228 "java/lang/IndexOutOfBoundsException" wt_nm).filter (fun w => !goodWord w), w ∈ [Cond.castable "java/lang/IndexOutOfBoundsException" "java/lang/IndexOutOfBoundsException", Cond.declares (Bundle.initS "java/lang/RuntimeException"), Cond.declares (Bundle.initS "java/lang/Exception"), Cond.declares (Bundle.initS "java/lang/Throwable")] := by decide +kernel
theorem wt_nbA : ∀ w ∈ (vx_atS RX1 239 "java/lang/IllegalArgumentException" wt_nm).filter (fun w => !goodWord w), w ∈ [Cond.castable "java/lang/IllegalArgumentException" "java/lang/IllegalArgumentException", Cond.declares (Bundle.initS "java/lang/RuntimeException"), Cond.declares (Bundle.initS "java/lang/Exception"), Cond.declares (Bundle.initS "java/lang/Throwable")] := by decide +kernel
theorem wt_nbS : ∀ w ∈ (vx_atS RX1 46 "java/lang/IllegalStateException" wt_nm).filter (fun w => !goodWord w), w ∈ [Cond.castable "java/lang/IllegalStateException" "java/lang/IllegalStateException", Cond.declares (Bundle.initS "java/lang/RuntimeException"), Cond.declares (Bundle.initS "java/lang/Exception"), Cond.declares (Bundle.initS "java/lang/Throwable")] := by decide +kernel
/-- a call of a method that may throw, by one that doesn't catch -/
theorem wt_call {mc ms mc' ms' sz : Nat} {av : Array Value} {post : Option Value → List Nat → (Nat → va_E) → Prop} {px px' : String → Prop} {Qc : Array Value → State → Outcome → State → Prop} (hpx : ∀ E, px E → px' E) (hr : vx_Run p l e R s m args below meth c H locs cells slots mc ms (F0 m pc ls st0) rest (wy_Q G post (wy_A L H.size) av) (wt_X G px L f (wy_A L H.size)) (wy_A L H.size)) (hw : wy_H G L f (wy_A L sz) s.heap H locs) (hA : ∀ q, s.heap.size ≤ q → wy_A L sz q) (hno : ∀ x ∈ c.exceptionTable.toList, False) (hlocks : meth.locks = false) (hc : cells + mc ≤ mc') (hs : slots + ms ≤ ms')
    (kk : ∀ (r : Option Value) (L' : List Nat) (f' : Nat → va_E) (H1 : Heap) (locs1 : List Loc), post r L' f' → wy_H G L' f' (wy_A L sz) s.heap H1 locs1 → W p l e R s m args below meth c H1 locs1 (cells + mc) (slots + ms) (vx_MQ below Qc (wt_X G px' L f (wy_A L sz)) args s mc' ms' (wy_A L sz)) (F0 m (pc + 3) ls (r.toList ++ rest))) :
    W p l e R s m args below meth c H locs cells slots (vx_MQ below Qc (wt_X G px' L f (wy_A L sz)) args s mc' ms' (wy_A L sz)) (F0 m pc ls st0) := by
  have hsub := hw.sub hA
  obtain ⟨hP, hD, hS⟩ := hw
  intro T hT X
  rcases hr T hT X with ⟨v, st₀, t, T', Ls, h0, X', hL, e1, e2, ⟨⟨r, L', f', hv, hp, hPt, hDt⟩, hF⟩, st⟩ | ⟨q, st₀, t, T', Ls, E, ce, h0, X', hL, e1, e2, ⟨hp, hPt, hF⟩, hce, hcv, hcl, st⟩
  · cases hv
    obtain ⟨k1, k2, k3⟩ := vx_keep h0 e1 hS (fun q _ h => hsub q h) hsub hL hF
    obtain ⟨t2, a1, b1⟩ := kk v L' f' T'.heap (locs ++ Ls) hp ⟨by rw [e1]; exact hPt, hDt.weaken (fun _ q _ h => hsub q.1 h), k3⟩ T' rfl X'
    exact ⟨t2, st t2 a1, b1⟩
  · obtain ⟨k1, k2, k3⟩ := vx_keep h0 e1 hS (fun q _ h => hsub q h) hsub hL hF
    obtain ⟨t2, a1, b1⟩ := vx_out (E := E) (ce := ce) (q := q) (pc := pc) (ls := ls) (rest := rest) (Qc := Qc) (XC := wt_X G px' L f (wy_A L sz)) (mc := mc') (ms := ms') (free := wy_A L sz) (fun x hx => (hno x hx).elim) hlocks (by rw [e1]; exact hce) hcv hcl (fun t2 ht2 hal => ⟨hpx E hp, by rw [ht2, e1]; exact hPt, k3.F ht2⟩) k3.2.2 hc hs T' rfl X'
    exact ⟨t2, st.trans a1, b1⟩
theorem wy_aW {a : Nat} {rt : FieldType} {L0 : List Nat} {sz mc ms : Nat} {post : Option Value → List Nat → (Nat → va_E) → Prop} (hexec : p.tables.exec = Jvm.exec) (hb : c.code = cc) (hr : meth.sig.returnType = some rt) (hrt : (∃ n, rt = .object n) ∨ ∃ t, rt = .array t) (hlocks : meth.locks = false) (hdg : decode cc pc = .ok (.areturn, 1)) (hw : wy_H G L f (wy_A L0 sz) s.heap H locs) (hc : cells ≤ mc) (hs : slots ≤ ms) (h : post (some (.ref a)) L f) : W p l e R s m args below meth c H locs cells slots (MQ below (wy_Q G post (wy_A L0 sz)) args s mc ms (wy_A L0 sz)) (F0 m pc ls [.ref a]) :=
  W.widen hc hs (W.aret hexec hb hr hrt (Or.inr ⟨a, rfl⟩) (fun t ht hW => ⟨⟨some (.ref a), L, f, rfl, h, by rw [ht]; exact hw.1, hw.2.1⟩, hw.2.2.F ht⟩) hw.2.2.2.2 hdg hlocks)
end WT
