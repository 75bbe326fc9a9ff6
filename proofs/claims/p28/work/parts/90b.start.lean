/-! the law, from its entry -/
theorem start_J : wJ 0 0 100 20 0 (fun _ => 0) (fun _ => vNew 0 0) := ⟨wI_0, by decide, by decide, fun k hk => absurd hk (by omega), Nat.le_refl _, fun d _ => ⟨0, by decide, rfl⟩⟩
theorem start_B {g1 g2 : Nat → Int32} (e1 : g1 = upd (fun _ => 0) 2 100) (e2 : g2 = upd g1 3 20) : wB 0 100 20 0 (fun _ => vNew 0 0) (fun _ => 0) (fun _ => 0) (fun _ => 0) (fun _ => 0) g2 := by
  have hg : ∀ j, j ≠ 2 → j ≠ 3 → g2 j = 0 := fun j a b => by rw [e2, pk_un b, e1, pk_un a]
  refine ⟨fun k hk => absurd hk (by omega), fun k _ => rfl, fun k _ => (by decide +kernel : (0 : Int32) = bI (hdv (vNew 0 0))), fun k _ => (by decide +kernel : (0 : Int32) = vmk (vNew 0 0)), fun k _ => (by decide +kernel : (0 : Int32) = omk (vNew 0 0)), fun r _ => rfl, hg 0 (by decide) (by decide), hg 1 (by decide) (by decide), by rw [e2, pk_un (by decide), e1, pk_us], by rw [e2, pk_us], hg 4 (by decide) (by decide)⟩
set_option maxHeartbeats 4000000 in
set_option maxRecDepth 100000 in
/-- THE LAW, from its entry -/
theorem whole_start {p : Program} {e : Env} {s : State} {m : MethodId} {below : List Frame} {meth : Method} {c : Code} (l : Launch) (hflags : l.flags = flags0) {b L : Nat} {xs : Nat → Int32} (hL : L ≤ 260) (C0 : lw_At p s m meth c b L xs) : W p l e room_1 s m #[Value.ref b] below meth c s.heap [] 0 0 (lw_Z below #[Value.ref b] s) (entryFrame m ([Value.ref b] : List Value).toArray 9) := by
  obtain ⟨hx, hb, hr, hml, hown, hts0, hX, hbl, hlocks, hgv⟩ := id C0
  have hnt : l.stackTraces = false := by
    show (!l.flags.contains noTraceFlag) = false
    rw [hflags]
    decide +kernel
  obtain ⟨eh, hz⟩ := ws_l hts0 hgv
  obtain ⟨G, rfl, hK⟩ := ws_K hts0 eh
  have hZ : wl_E G (lwA s) s := hz
  have hE : wt_E (lwA s) s := ws_E hts0 hgv
  have hN : wc_N s := ws_N hgv
  have hts : ∀ w ∈ wsL_law, w.before #[Value.ref b] s = true := fun w h => hts0 w (wsL_law_in w h)
  have hA : ∀ q, s.heap.size ≤ q → lwA s q := fun _ h => h
  have hown : s.vm.findClass RL = some m.cls := hown
  have hb : c.code = cL_law := hb
  have hl := lv_entry ([.ref b]) (n := 9) (Nat.le_of_ble_eq_true rfl)
  rw [lg_entry_eq]
  generalize (lg_sl ([.ref b]) ++ List.replicate (9 - (lg_sl ([.ref b])).length) Slot.unset).toArray = ls at hl ⊢
  have hl : lv_has ls 9 [(0, .ref b)] := hl
  have hw : wy_H G [] (fun _ => .inl (0, 0, .inl (fun _ => 0))) (lwA s) s.heap s.heap [] := ⟨fun k q h => by simp [va_pl] at h, ⟨fun i j x y h => by simp [va_pl] at h, fun k q h => by simp [va_pl] at h⟩, va_S.rf⟩
  refine wy_newS (ci := 2) (C := RX1) (T := TX1) (N := 5) hx hb hts inlX1 tyX1 tyX1_ok hown (hts (.classLink RL 9 RX1) (by decide +kernel)) (hts (.instantiable RX1 5) (by decide +kernel)) (hts (.initialized RX1) (by decide +kernel)) hK hw hA rfl (fs := [.null, .null, .int 0, .int 0, .int 0]) (fun j hj => match j, hj with | 0, _ => rfl | 1, _ => rfl | 2, _ => rfl | 3, _ => rfl | 4, _ => rfl | (k + 5), h => absurd h (by omega)) (Nat.le_of_ble_eq_true rfl) (Nat.le_of_ble_eq_true rfl) dL_law_0 (fun ox H hox hw0 hw => ?_)
  refine lv_dup hx hb dL_law_3 rfl ?_
  have hq1 : wy_c [ox] (fun _ => (.inr (2, [.null, .null, .int 0, .int 0, .int 0]) : va_E)) ox (.inr (2, [.null, .null, .int 0, .int 0, .int 0])) := ⟨List.mem_cons_self, rfl⟩
  refine wy_callK (va_runI (As := []) (rest := [.ref ox]) ⟨hx, hb, hml, hown, hts⟩ (m_X1_init l hq1) (cwI 0 hts gL_law_X1_init rfl rfl rfl (hts (.initialized RX1) (by decide +kernel)) (hts (.methodLink RL 151 yX1_init) (by decide +kernel)) (hts (.instanceMethod yX1_init) (by decide +kernel)) rfl (by decide +kernel) ⟨Nat.le_of_ble_eq_true rfl, Nat.le_of_ble_eq_true rfl⟩) (wl_pS hK hZ hw hA) rfl rfl hl.1 rfl (lv_room (Nat.le_of_ble_eq_true rfl)) dL_law_4 ⟨Nat.le_of_ble_eq_true rfl, Nat.le_of_ble_eq_true rfl⟩) hw hA (fun r1 L1 f1 H locs hp hw _ => ?_)
  obtain ⟨er1, lo, ra, ar, hS⟩ := hp
  subst er1
  refine lv_astore_n (lv' := [(1, .ref ox), (0, .ref b)]) hx hb dL_law_7 rfl hl (by decide) rfl (fun ls hl => ?_)
  have hw := wq_nil (fa := fun _ => .inl (0, 0, .inl (fun _ => 0))) hw
  refine lv_bipush (v := 60) hx hb dL_law_8 (by decide) ?_
  refine wq_newI hx hb (hts (.arrayClass .int) (by decide +kernel)) hK hw hA 60 rfl (by decide) (Nat.le_of_ble_eq_true rfl) (Nat.le_of_ble_eq_true rfl) dL_law_10 (fun ad H fa0 hq_ad hc_ad hn_ad hw => ?_)
  refine lv_astore_n (lv' := [(2, .ref ad), (1, .ref ox), (0, .ref b)]) hx hb dL_law_12 rfl hl (by decide) rfl (fun ls hl => ?_)
  refine lv_bipush (v := 20) hx hb dL_law_13 (by decide) ?_
  refine wq_newI hx hb (hts (.arrayClass .int) (by decide +kernel)) hK hw hA 20 rfl (by decide) (Nat.le_of_ble_eq_true rfl) (Nat.le_of_ble_eq_true rfl) dL_law_15 (fun av H fa1 hq_av hc_av hn_av hw => ?_)
  have hne_ad_av : ad ≠ av := wy_c.neq hc_ad hq_av
  have hc_ad_1 := wy_c.app2 hc_ad hq_av hn_av
  refine lv_astore_n (lv' := [(3, .ref av), (2, .ref ad), (1, .ref ox), (0, .ref b)]) hx hb dL_law_17 rfl hl (by decide) rfl (fun ls hl => ?_)
  refine lv_bipush (v := 20) hx hb dL_law_18 (by decide) ?_
  refine wq_newI hx hb (hts (.arrayClass .int) (by decide +kernel)) hK hw hA 20 rfl (by decide) (Nat.le_of_ble_eq_true rfl) (Nat.le_of_ble_eq_true rfl) dL_law_20 (fun ao H fa2 hq_ao hc_ao hn_ao hw => ?_)
  have hne_ad_ao : ad ≠ ao := wy_c.neq hc_ad_1 hq_ao
  have hc_ad_2 := wy_c.app2 hc_ad_1 hq_ao hn_ao
  have hne_av_ao : av ≠ ao := wy_c.neq hc_av hq_ao
  have hc_av_2 := wy_c.app2 hc_av hq_ao hn_ao
  refine lv_astore (lv' := [(4, .ref ao), (3, .ref av), (2, .ref ad), (1, .ref ox), (0, .ref b)]) hx hb dL_law_22 hl (by decide) rfl (fun ls hl => ?_)
  refine lv_bipush (v := 10) hx hb dL_law_24 (by decide) ?_
  refine wq_newI hx hb (hts (.arrayClass .int) (by decide +kernel)) hK hw hA 10 rfl (by decide) (Nat.le_of_ble_eq_true rfl) (Nat.le_of_ble_eq_true rfl) dL_law_26 (fun af H fa3 hq_af hc_af hn_af hw => ?_)
  have hne_ad_af : ad ≠ af := wy_c.neq hc_ad_2 hq_af
  have hc_ad_3 := wy_c.app2 hc_ad_2 hq_af hn_af
  have hne_av_af : av ≠ af := wy_c.neq hc_av_2 hq_af
  have hc_av_3 := wy_c.app2 hc_av_2 hq_af hn_af
  have hne_ao_af : ao ≠ af := wy_c.neq hc_ao hq_af
  have hc_ao_3 := wy_c.app2 hc_ao hq_af hn_af
  refine lv_astore (lv' := [(5, .ref af), (4, .ref ao), (3, .ref av), (2, .ref ad), (1, .ref ox), (0, .ref b)]) hx hb dL_law_28 hl (by decide) rfl (fun ls hl => ?_)
  refine lv_iconst (v := 5) hx hb dL_law_30 (by decide) ?_
  refine wq_newI hx hb (hts (.arrayClass .int) (by decide +kernel)) hK hw hA 5 rfl (by decide) (Nat.le_of_ble_eq_true rfl) (Nat.le_of_ble_eq_true rfl) dL_law_31 (fun ag H fa4 hq_ag hc_ag hn_ag hw => ?_)
  have hne_ad_ag : ad ≠ ag := wy_c.neq hc_ad_3 hq_ag
  have hc_ad_4 := wy_c.app2 hc_ad_3 hq_ag hn_ag
  have hne_av_ag : av ≠ ag := wy_c.neq hc_av_3 hq_ag
  have hc_av_4 := wy_c.app2 hc_av_3 hq_ag hn_ag
  have hne_ao_ag : ao ≠ ag := wy_c.neq hc_ao_3 hq_ag
  have hc_ao_4 := wy_c.app2 hc_ao_3 hq_ag hn_ag
  have hne_af_ag : af ≠ ag := wy_c.neq hc_af hq_ag
  have hc_af_4 := wy_c.app2 hc_af hq_ag hn_ag
  refine lv_astore (lv' := [(6, .ref ag), (5, .ref af), (4, .ref ao), (3, .ref av), (2, .ref ad), (1, .ref ox), (0, .ref b)]) hx hb dL_law_33 hl (by decide) rfl (fun ls hl => ?_)
  refine lv_aload hx hb dL_law_35 (lv_at hl 0 rfl) ?_
  refine lv_iconst (v := 2) hx hb dL_law_37 (by decide) ?_
  refine lv_bipush (v := 100) hx hb dL_law_38 (by decide) ?_
  refine wq_iast hx hb hK hw hc_ag 2 rfl (by decide) (by decide) dL_law_40 (fun H locs fb0 hg_0 hm_0 hw => ?_)
  obtain ⟨g0, eg0⟩ : ∃ y, y = upd (fun _ => 0) 2 100 := ⟨_, rfl⟩
  rw [← eg0] at hg_0
  have hw_ad_0 := wy_c.ne2 hc_ad_4 hm_0 hne_ad_ag
  have hw_av_0 := wy_c.ne2 hc_av_4 hm_0 hne_av_ag
  have hw_ao_0 := wy_c.ne2 hc_ao_4 hm_0 hne_ao_ag
  have hw_af_0 := wy_c.ne2 hc_af_4 hm_0 hne_af_ag
  refine lv_aload hx hb dL_law_41 (lv_at hl 0 rfl) ?_
  refine lv_iconst (v := 3) hx hb dL_law_43 (by decide) ?_
  refine lv_bipush (v := 20) hx hb dL_law_44 (by decide) ?_
  refine wq_iast hx hb hK hw hg_0 3 rfl (by decide) (by decide) dL_law_46 (fun H locs fb1 hg_1 hm_1 hw => ?_)
  obtain ⟨g1, eg1⟩ : ∃ y, y = upd (g0) 3 20 := ⟨_, rfl⟩
  rw [← eg1] at hg_1
  have hw_ad_1 := wy_c.ne2 hw_ad_0 hm_1 hne_ad_ag
  have hw_av_1 := wy_c.ne2 hw_av_0 hm_1 hne_av_ag
  have hw_ao_1 := wy_c.ne2 hw_ao_0 hm_1 hne_ao_ag
  have hw_af_1 := wy_c.ne2 hw_af_0 hm_1 hne_af_ag
  exact lq_rest l hx hb hr hml hown hts hlocks ⟨hX, hbl⟩ hL hK hE hZ hN hnt hw ⟨ra, ar, 0, 100, 20, 0, fun _ => 0, fun _ => vNew 0 0, fun _ => 0, fun _ => 0, fun _ => 0, fun _ => 0, g1, hS, ⟨hw_ad_1, hw_av_1, hw_ao_1, hw_af_1, hg_1, hne_ad_av, hne_ad_ao, hne_ad_af, hne_ad_ag, hne_av_ao, hne_av_af, hne_av_ag, hne_ao_af, hne_ao_ag, hne_af_ag⟩, start_J, start_B eg0 eg1⟩ (Nat.le_of_ble_eq_true rfl) (Nat.le_of_ble_eq_true rfl) (lv_sub hl [5, 4, 3, 2, 1, 0, 6] rfl)
