set_option maxHeartbeats 4000000 in
set_option maxRecDepth 100000 in
/-- THE LAW, from its entry -/
theorem whole_start {p : Program} {e : Env} {s : State} {m : MethodId} {below : List Frame} {meth : Method} {c : Code} (l : Launch) (hflags : l.flags = flags0) {b L : Nat} {xs : Nat → Int32} (hL : L ≤ 2560) (C0 : lw_At p s m meth c b L xs) : W p l e room_1 s m #[Value.ref b] below meth c s.heap [] 0 0 (lw_Z below #[Value.ref b] s) (entryFrame m ([Value.ref b] : List Value).toArray 8) := by
  obtain ⟨hx, hb, hr, hml, hown, hts0, hX, hbl, hlocks, hgv⟩ := id C0
  have hnt : l.stackTraces = false := by
    show (!l.flags.contains noTraceFlag) = false
    rw [hflags]
    decide +kernel
  obtain ⟨eh, hz⟩ := ws_l hts0 hgv
  obtain ⟨G, rfl, hK⟩ := ws_K hts0 eh
  have hZ : wl_E G (lwA s) s := hz
  have hE : wt_E (lwA s) s := ws_E hts0 hgv
  have hN : wc_N s := ws_N hgv
  have hts : ∀ w ∈ wsL_law, w.before #[Value.ref b] s = true := fun w h => hts0 w (wsL_law_in w h)
  have hA : ∀ q, s.heap.size ≤ q → lwA s q := fun _ h => h
  have hown : s.vm.findClass RL = some m.cls := hown
  have hb : c.code = cL_law := hb
  have C1 : lwC G p l s m meth c b L xs := ⟨hx, hb, hml, hown, hts, hX, hbl, hK, hE, hZ, hN, hnt⟩
  have hl := lv_entry ([.ref b]) (n := 8) (Nat.le_of_ble_eq_true rfl)
  rw [lg_entry_eq]
  generalize (lg_sl ([.ref b]) ++ List.replicate (8 - (lg_sl ([.ref b])).length) Slot.unset).toArray = ls at hl ⊢
  have hl : lv_has ls 8 [(0, .ref b)] := hl
  have hw : wy_H G [] (fun _ => .inl (0, 0, .inl (fun _ => 0))) (lwA s) s.heap s.heap [] := ⟨fun k q h => by simp [va_pl] at h, ⟨fun i j x y h => by simp [va_pl] at h, fun k q h => by simp [va_pl] at h⟩, va_S.rf⟩
  refine wy_newS (ci := 2) (C := RX1) (T := TX1) (N := 5) hx hb hts inlX1 tyX1 tyX1_ok hown (hts (.classLink RL 8 RX1) (by decide +kernel)) (hts (.instantiable RX1 5) (by decide +kernel)) (hts (.initialized RX1) (by decide +kernel)) hK hw hA rfl (fs := [.null, .null, .int 0, .int 0, .int 0]) (fun j hj => match j, hj with | 0, _ => rfl | 1, _ => rfl | 2, _ => rfl | 3, _ => rfl | 4, _ => rfl | (k + 5), h => absurd h (by omega)) (Nat.le_of_ble_eq_true rfl) (Nat.le_of_ble_eq_true rfl) dL_law_0 (fun ox H hox hw0 hw => ?_)
  refine lv_dup hx hb dL_law_3 rfl ?_
  have hq1 : wy_c [ox] (fun _ => (.inr (2, [.null, .null, .int 0, .int 0, .int 0]) : va_E)) ox (.inr (2, [.null, .null, .int 0, .int 0, .int 0])) := ⟨List.mem_cons_self, rfl⟩
  refine wy_callK (va_runI (As := []) (rest := [.ref ox]) ⟨hx, hb, hml, hown, hts⟩ (m_X1_init l hq1) (cwI 0 hts gL_law_X1_init rfl rfl rfl (hts (.initialized RX1) (by decide +kernel)) (hts (.methodLink RL 89 yX1_init) (by decide +kernel)) (hts (.instanceMethod yX1_init) (by decide +kernel)) rfl (by decide +kernel) ⟨Nat.le_of_ble_eq_true rfl, Nat.le_of_ble_eq_true rfl⟩) (wl_pS hK hZ hw hA) rfl rfl hl.1 rfl (lv_room (Nat.le_of_ble_eq_true rfl)) dL_law_4 ⟨Nat.le_of_ble_eq_true rfl, Nat.le_of_ble_eq_true rfl⟩) hw hA (fun r1 L1 f1 H locs hp hw _ => ?_)
  obtain ⟨er1, lo, ra, ar, hS⟩ := hp
  subst er1
  refine lv_astore_n (lv' := [(1, .ref ox), (0, .ref b)]) hx hb dL_law_7 rfl hl (by decide) rfl (fun ls hl => ?_)
  refine wy_newS (ci := 3) (C := RX2) (T := TX2) (N := 15) hx hb hts inlX2 tyX2 tyX2_ok hown (hts (.classLink RL 90 RX2) (by decide +kernel)) (hts (.instantiable RX2 15) (by decide +kernel)) (hts (.initialized RX2) (by decide +kernel)) hK hw hA rfl (fs := [.int 0, .int 0, .int 0, .null, .null, .null, .null, .null, .null, .null, .null, .null, .int 0, .null, .int 0]) (fun j hj => match j, hj with | 0, _ => rfl | 1, _ => rfl | 2, _ => rfl | 3, _ => rfl | 4, _ => rfl | 5, _ => rfl | 6, _ => rfl | 7, _ => rfl | 8, _ => rfl | 9, _ => rfl | 10, _ => rfl | 11, _ => rfl | 12, _ => rfl | 13, _ => rfl | 14, _ => rfl | (k + 15), h => absurd h (by omega)) (Nat.le_of_ble_eq_true rfl) (Nat.le_of_ble_eq_true rfl) dL_law_8 (fun om H hom hw hwm => ?_)
  refine lv_dup hx hb dL_law_11 rfl ?_
  have hq2 : wy_c [om] (fun _ => (.inr (3, [.int 0, .int 0, .int 0, .null, .null, .null, .null, .null, .null, .null, .null, .null, .int 0, .null, .int 0]) : va_E)) om (.inr (3, [.int 0, .int 0, .int 0, .null, .null, .null, .null, .null, .null, .null, .null, .null, .int 0, .null, .int 0])) := ⟨List.mem_cons_self, rfl⟩
  refine wy_callK (va_runI (As := []) (rest := [.ref om]) ⟨hx, hb, hml, hown, hts⟩ (m_X2_init l hq2) (cwI 0 hts gL_law_X2_init rfl rfl rfl (hts (.initialized RX2) (by decide +kernel)) (hts (.methodLink RL 92 yX2_init) (by decide +kernel)) (hts (.instanceMethod yX2_init) (by decide +kernel)) rfl (by decide +kernel) ⟨Nat.le_of_ble_eq_true rfl, Nat.le_of_ble_eq_true rfl⟩) (wy_pSW hK hwm) rfl rfl hl.1 rfl (lv_room (Nat.le_of_ble_eq_true rfl)) dL_law_12 ⟨Nat.le_of_ble_eq_true rfl, Nat.le_of_ble_eq_true rfl⟩) hwm hA (fun r2 Lm fm H1 locs hp hwm hk => ?_)
  obtain ⟨er2, ma, g0, g1, g2, g3, g4, g5, g6, g7, g8, g9, hM, hR⟩ := hp
  subst er2
  have hdis : ∀ q, q ∈ L1 → q ∉ [om] := fun q h z => hom (List.mem_singleton.mp z ▸ h)
  have hd : ∀ q, q ∈ Lm → q ∉ L1 := fun q h1 h2 => (hk q (hw.lt h2) (hdis q h2)).2 h1
  have hw : wy_H G L1 f1 (lwA s) s.heap H1 locs := hw.keep (B := fun q => q ∈ [om]) (fun q a z => (hk q a z).1) hdis hwm.2.2
  clear hk hw0
  have hlt1 : ∀ q, q ∈ L1 → q < H1.size := fun q h => hw.lt h
  have hltm : ∀ q, q ∈ Lm → q < H1.size := fun q h => hwm.lt h
  have hS1 := hw.2.2.1
  refine lv_astore_n (lv' := [(2, .ref om), (1, .ref ox), (0, .ref b)]) hx hb dL_law_15 rfl hl (by decide) rfl (fun ls hl => ?_)
  refine lv_iconst (v := 1) hx hb dL_law_16 (by decide) ?_
  refine va_newaK (atype := .long) (N := 1) hx hb (hts (.arrayClass .long) (by decide +kernel)) rfl dL_law_17 rfl (by decide) rfl (by decide) (Nat.le_of_ble_eq_true rfl) (Nat.le_of_ble_eq_true rfl) rfl (fun H2 cL e1 z1 o1 hAr hNm => ?_)
  have ec : cL = G.2 3 := Option.some.inj (hNm.symm.trans (hK.2 3 (G.2 3, .long) rfl).2)
  subst ec
  have ho : wo_c G H1.size (fun _ => 0) H2 := e1
  have hw := hw.keep (B := fun _ => False) (fun q a _ => o1 q a) (fun _ _ z => z) (va_S.more hw.2.2 z1 o1)
  have hwm := hwm.keep (B := fun _ => False) (fun q a _ => o1 q a) (fun _ _ z => z) (va_S.more hwm.2.2 z1 o1)
  refine W.eq (g2 := F0 m 19 _ [.ref H1.size]) rfl ?_
  refine lv_astore_n (lv' := [(3, .ref H1.size), (2, .ref om), (1, .ref ox), (0, .ref b)]) hx hb dL_law_19 rfl hl (by decide) rfl (fun ls hl => ?_)
  refine lv_iconst (v := 1) hx hb dL_law_20 (by decide) ?_
  refine va_newaK (atype := .double) (N := 1) hx hb (hts (.arrayClass .double) (by decide +kernel)) rfl dL_law_21 rfl (by decide) rfl (by decide) (Nat.le_of_ble_eq_true rfl) (Nat.le_of_ble_eq_true rfl) rfl (fun H3 cL e2 z2 o2 hAr2 hNm2 => ?_)
  have ec : cL = G.2 4 := Option.some.inj (hNm2.symm.trans (hK.2 4 (G.2 4, .double) rfl).2)
  subst ec
  have ho2 : wd_c G H2.size (fun _ => 0) H3 := e2
  have ho : wo_c G H1.size (fun _ => 0) H3 := (show H3[H1.size]? = some _ from (o2 H1.size (by omega)).trans ho)
  have hw := hw.keep (B := fun _ => False) (fun q a _ => o2 q a) (fun _ _ z => z) (va_S.more hw.2.2 z2 o2)
  have hwm := hwm.keep (B := fun _ => False) (fun q a _ => o2 q a) (fun _ _ z => z) (va_S.more hwm.2.2 z2 o2)
  have hLw : wL G (lwA s) s.heap H3 locs L1 f1 Lm fm H1.size (fun _ => 0) H2.size (fun _ => 0) := by
    refine ⟨hw, hwm, fun q h => ⟨hd q h, fun z => ?_, fun z => ?_⟩, fun z => ?_, fun z => ?_, by omega, hA _ hS1, hA _ (by omega), by omega, by omega, ho, ho2⟩
    · have := hltm q h; omega
    · have := hltm q h; omega
    · have := hlt1 _ z; omega
    · have := hlt1 _ z; omega
  refine W.eq (g2 := F0 m 23 _ [.ref H2.size]) rfl ?_
  refine lv_astore (lv' := [(4, .ref H2.size), (3, .ref H1.size), (2, .ref om), (1, .ref ox), (0, .ref b)]) hx hb dL_law_23 hl (by decide) rfl (fun ls hl => ?_)
  refine lv_iconst (v := 0) hx hb dL_law_25 (by decide) ?_
  refine lv_istore (lv' := [(5, .int 0), (4, .ref H2.size), (3, .ref H1.size), (2, .ref om), (1, .ref ox), (0, .ref b)]) hx hb dL_law_26 hl (by decide) rfl (fun ls hl => ?_)
  refine lw_loop l C1 hL (fun H locs cells slots ls h1 h2 h3 => ?_) 513 0 _ _ _ _ _ 0 (by omega) (by omega) ⟨L1, f1, Lm, fm, fun _ => 0, fun _ => 0, lo, ra, ar, ma, 0, 100, 20, 0, fun _ => 0, fun _ => vNew 0 0, 0, g0, g1, g2, g3, g4, g5, g6, g7, g8, g9, hLw, hS, hM, hR, wI_0⟩ rfl (Nat.le_of_ble_eq_true rfl) (Nat.le_of_ble_eq_true rfl) hl
  refine va_forget h1 ?_
  refine lv_iconst (v := 1) hx hb dL_law_1642 (by decide) ?_
  refine W.widen (k := 601024) (n := 7293034) h2 h3 ?_
  refine W.base ?_
  exact lw_ret (d0 := s.drawn) (Drawn.sameBut.refl s.drawn lw_cs) hx hb hr hlocks dL_law_1643
