set_option maxHeartbeats 4000000 in
set_option maxRecDepth 100000 in
theorem m_L_rates (l : Launch) (hnt : l.stackTraces = false) {G : wy_G} {L : List Nat} {f : Nat → va_E} {sz : Nat} {ox lo : Nat} {ra ar : Nat → Nat} {n : Nat} {km mn : Int32} {wk : Nat} {po : Nat → Int32} {rr : Nat → wr_V} (hq : wx_S G L f ox lo ra ar n km mn wk po rr) (p1 p2 : Int32) : vx_Met l yL_rates wsL_rates ({ frames := 8, cells := 2, slots := 12, locals := 126 } : Room) (va_Pc [.ref ox, .int p1, .int p2] (wt_P G L f sz)) (wy_Q G (wx_p G ox lo n p1 p2 wk po rr (some (.int 0)) (srC p1 p2)) (wy_A L sz)) (wt_X G (pxA (srC p1 p2)) L f (wy_A L sz)) 2 12 (wy_A L sz) := by
  refine vx_ofW (cc := cL_rates) (maxL := 3) (ret := (some .int)) (by decide) rfl ?_
  intro p e s m args below meth c s₁ B hml htab hv
  obtain ⟨rfl, hv, hE⟩ := hv
  obtain ⟨hw, hK, hA⟩ := wy_start hv
  have hsz := hv.1
  subst hsz
  have hx := B.exec
  have hb := B.bytes
  have hr := B.returns
  have hts := atoms_spec (ws := wsL_rates) B.pre
  have hown : s.vm.findClass RL = some m.cls := findClass_of_methodNamed B.named
  have hlocks := B.notSynchronized
  obtain ⟨md, he, cap, gg, hL1, -⟩ := id hq.2.1
  have hn : n ≤ 40 := hq.2.2.2.2.1
  have hwk : wk ≤ 20 := hq.2.2.2.2.2.1
  have hl := lv_entry ([.ref ox, .int p1, .int p2]) (n := 3) (Nat.le_of_ble_eq_true rfl)
  rw [lg_entry_eq]
  generalize (lg_sl ([.ref ox, .int p1, .int p2]) ++ List.replicate (3 - (lg_sl ([.ref ox, .int p1, .int p2])).length) Slot.unset).toArray = ls at hl ⊢
  have hl : lv_has ls 3 [(0, .ref ox), (1, .int p1), (2, .int p2)] := hl
  refine lv_aload_n hx hb dL_rates_0 rfl (lv_at hl 0 rfl) ?_
  refine lv_iload_n hx hb dL_rates_1 rfl (lv_at hl 1 rfl) ?_
  refine lv_iload_n hx hb dL_rates_2 rfl (lv_at hl 2 rfl) ?_
  refine wt_call (fun E h => h) (vx_runV (As := [.int p1, .int p2]) (rest := []) ⟨hx, hb, hml, hown, hts⟩ (m_X1_setRates l hnt hq (p1) (p2)) (cwV 2 hts gL_rates_X1_setRates rfl rfl rfl (by decide +kernel) ⟨Nat.le_of_ble_eq_true rfl, Nat.le_of_ble_eq_true rfl⟩) (wt_pV hK hE hw hA hq.1 rfl) rfl rfl hl.1 rfl (lv_room (Nat.le_of_ble_eq_true rfl)) dL_rates_3 ⟨Nat.le_of_ble_eq_true rfl, Nat.le_of_ble_eq_true rfl⟩) hw hA htab hlocks (Nat.le_of_ble_eq_true rfl) (Nat.le_of_ble_eq_true rfl) (fun rw_1 Lw_1 fw_1 H locs hpost hw => ?_)
  obtain ⟨hC, er, ra2, ar2, hS⟩ := hpost
  subst er
  refine lv_iconst (v := 0) hx hb dL_rates_6 (by decide) ?_
  exact vx_ret (wy_iW hx hb hr hlocks dL_rates_7 hw (Nat.le_of_ble_eq_true rfl) (Nat.le_of_ble_eq_true rfl) ⟨hC, rfl, ra2, ar2, hS⟩)
set_option maxHeartbeats 4000000 in
set_option maxRecDepth 100000 in
theorem m_L_does_rates (l : Launch) (hnt : l.stackTraces = false) {G : wy_G} {L : List Nat} {f fa : Nat → va_E} {sz : Nat} {ox lo : Nat} {ra ar : Nat → Nat} {n : Nat} {km mn : Int32} {wk : Nat} {po : Nat → Int32} {rr : Nat → wr_V} (hq : wx_S G L f ox lo ra ar n km mn wk po rr) (p1 p2 p3 : Int32) (bb : Bool) : vx_Met l yL_does wsL_does ({ frames := 9, cells := 2, slots := 12, locals := 148 } : Room) (va_Pc [.ref ox, .int 0, .int p1, .int p2, .int p3, .int (bI bb)] (wq_P G L f [] fa sz)) (wq_Q G L [] sz (wd_p G ox lo n p1 p2 wk po rr L f (0) (srC p1 p2) (deA (srC p1 p2)))) (fun _ _ _ => False) 2 12 (wy_A (L ++ []) sz) := by
  refine vx_ofWH (cc := cL_does) (maxL := 7) (ret := (some .int)) (hh := [(0, 151, 152, 55), (0, 151, 157, 57), (0, 151, 162, 59)]) (by decide) rfl ?_
  intro p e s m args below meth c s₁ B hml hv
  obtain ⟨rfl, hP⟩ := hv
  obtain ⟨hw, hK, hA⟩ := wq_start hP
  obtain ⟨hv, -, -, hE, hZ, hN⟩ := hP
  have hsz := hv.1
  subst hsz
  have hx := B.exec
  have hb := B.bytes
  have hr := B.returns
  have hts := atoms_spec (ws := wsL_does) B.pre
  have hown : s.vm.findClass RL = some m.cls := findClass_of_methodNamed B.named
  have hlocks := B.notSynchronized
  have htab := vx_table (x := yL_does) B (hts (.codeWith yL_does cL_does 7 (some .int) [(0, 151, 152, 55), (0, 151, 157, 57), (0, 151, 162, 59)]) List.mem_cons_self)
  have hl := lv_entry ([.ref ox, .int 0, .int p1, .int p2, .int p3, .int (bI bb)]) (n := 7) (Nat.le_of_ble_eq_true rfl)
  rw [lg_entry_eq]
  generalize (lg_sl ([.ref ox, .int 0, .int p1, .int p2, .int p3, .int (bI bb)]) ++ List.replicate (7 - (lg_sl ([.ref ox, .int 0, .int p1, .int p2, .int p3, .int (bI bb)])).length) Slot.unset).toArray = ls at hl ⊢
  have hl : lv_has ls 7 [(0, .ref ox), (1, .int 0), (2, .int p1), (3, .int p2), (4, .int p3), (5, .int (bI bb))] := hl
  refine lv_iload_n hx hb dL_does_0 rfl (lv_at hl 1 rfl) ?_
  refine lv_if_ne (tgt := 13) hx hb dL_does_1 (by decide) (fun z => absurd z (by decide)) (fun _ => ?_)
  refine lv_aload_n hx hb dL_does_4 rfl (lv_at hl 0 rfl) ?_
  refine lv_iload_n hx hb dL_does_5 rfl (lv_at hl 2 rfl) ?_
  refine lv_iload_n hx hb dL_does_6 rfl (lv_at hl 3 rfl) ?_
  refine wq_callX (vx_runS (As := [.ref ox, .int p1, .int p2]) (rest := []) ⟨hx, hb, hml, hown, hts⟩ (m_L_rates l hnt hq (p1) (p2)) (va_cwS 3 hts gL_does_L_rates rfl rfl rfl (by decide +kernel) ⟨Nat.le_of_ble_eq_true rfl, Nat.le_of_ble_eq_true rfl⟩) (wt_pS hK hE hw.1 hA) rfl rfl hl.1 rfl (lv_room (Nat.le_of_ble_eq_true rfl)) dL_does_7 ⟨Nat.le_of_ble_eq_true rfl, Nat.le_of_ble_eq_true rfl⟩) hw hA (fun E ce q H locs hpE hw hcell hcv hcl => ?_) (fun rw_1 Lw_1 fw_1 H locs hpost hw => ?_)
  · obtain ⟨rfl, hC⟩ := hpE
    refine vx_catch (own := RL) hown [⟨0, 151, 152, 55⟩] ⟨0, 151, 157, 57⟩ [⟨0, 151, 162, 59⟩] (htab.trans rfl) (fun z hz => by rw [List.mem_singleton.mp hz]; exact Or.inr ⟨by decide, _, hts (.classLink RL 55 "java/lang/IndexOutOfBoundsException") (by decide +kernel), hN.2.1⟩) (by decide) (by decide) (hts (.classLink RL 57 "java/lang/IllegalArgumentException") (by decide +kernel)) (va_Nw.use rfl (hE.2.2.1 _ (by decide))) hcell hcv hcl ?_
    refine lv_astore (lv' := [(6, .ref q), (0, .ref ox), (1, .int 0), (2, .int p1), (3, .int p2), (4, .int p3), (5, .int (bI bb))]) hx hb dL_does_157 hl (by decide) rfl (fun ls hl => ?_)
    refine lv_bipush (v := (-20)) hx hb dL_does_159 (by decide) ?_
    exact wq_iretX hx hb hr hlocks dL_does_161 hw (Nat.le_of_ble_eq_true rfl) (Nat.le_of_ble_eq_true rfl) (Or.inr ⟨by rw [hC]; decide, congrArg Value.int (by rw [hC]; decide), rfl, rfl⟩)
  obtain ⟨hC, er, ra2, ar2, hS⟩ := hpost
  subst er
  refine lv_goto (tgt := 151) hx hb dL_does_10 (by decide) ?_
  exact wq_iretX hx hb hr hlocks dL_does_151 hw (Nat.le_of_ble_eq_true rfl) (Nat.le_of_ble_eq_true rfl) (Or.inl ⟨hC, rfl, ra2, ar2, hS⟩)
set_option maxHeartbeats 4000000 in
set_option maxRecDepth 100000 in
theorem m_L_does_start (l : Launch) (hnt : l.stackTraces = false) {G : wy_G} {L : List Nat} {f fa : Nat → va_E} {sz : Nat} {ox lo : Nat} {ra ar : Nat → Nat} {n : Nat} {km mn : Int32} {wk : Nat} {po : Nat → Int32} {rr : Nat → wr_V} (hq : wx_S G L f ox lo ra ar n km mn wk po rr) (p1 p2 p3 : Int32) (bb : Bool) : vx_Met l yL_does wsL_does ({ frames := 8, cells := 5, slots := 100, locals := 192 } : Room) (va_Pc [.ref ox, .int 1, .int p1, .int p2, .int p3, .int (bI bb)] (wq_P G L f [] fa sz)) (wq_Q G L [] sz (wd_p G ox lo (n + 1) km mn wk po (va_up rr n (vNew p1 (nI wk))) L f ((nI n)) (stC rr n p1) (de2 (stC rr n p1)))) (fun _ _ _ => False) 5 100 (wy_A (L ++ []) sz) := by
  refine vx_ofWH (cc := cL_does) (maxL := 7) (ret := (some .int)) (hh := [(0, 151, 152, 55), (0, 151, 157, 57), (0, 151, 162, 59)]) (by decide) rfl ?_
  intro p e s m args below meth c s₁ B hml hv
  obtain ⟨rfl, hP⟩ := hv
  obtain ⟨hw, hK, hA⟩ := wq_start hP
  obtain ⟨hv, -, -, hE, hZ, hN⟩ := hP
  have hsz := hv.1
  subst hsz
  have hx := B.exec
  have hb := B.bytes
  have hr := B.returns
  have hts := atoms_spec (ws := wsL_does) B.pre
  have hown : s.vm.findClass RL = some m.cls := findClass_of_methodNamed B.named
  have hlocks := B.notSynchronized
  have htab := vx_table (x := yL_does) B (hts (.codeWith yL_does cL_does 7 (some .int) [(0, 151, 152, 55), (0, 151, 157, 57), (0, 151, 162, 59)]) List.mem_cons_self)
  have hl := lv_entry ([.ref ox, .int 1, .int p1, .int p2, .int p3, .int (bI bb)]) (n := 7) (Nat.le_of_ble_eq_true rfl)
  rw [lg_entry_eq]
  generalize (lg_sl ([.ref ox, .int 1, .int p1, .int p2, .int p3, .int (bI bb)]) ++ List.replicate (7 - (lg_sl ([.ref ox, .int 1, .int p1, .int p2, .int p3, .int (bI bb)])).length) Slot.unset).toArray = ls at hl ⊢
  have hl : lv_has ls 7 [(0, .ref ox), (1, .int 1), (2, .int p1), (3, .int p2), (4, .int p3), (5, .int (bI bb))] := hl
  refine lv_iload_n hx hb dL_does_0 rfl (lv_at hl 1 rfl) ?_
  refine lv_if_ne (tgt := 13) hx hb dL_does_1 (by decide) (fun _ => ?_) (fun z => absurd z (by decide))
  refine lv_iload_n hx hb dL_does_13 rfl (lv_at hl 1 rfl) ?_
  refine lv_iconst (v := 1) hx hb dL_does_14 (by decide) ?_
  refine lv_icmp_ne (tgt := 26) hx hb dL_does_15 (by decide) (fun z => absurd z (by decide)) (fun _ => ?_)
  refine lv_aload_n hx hb dL_does_18 rfl (lv_at hl 0 rfl) ?_
  refine lv_iload_n hx hb dL_does_19 rfl (lv_at hl 2 rfl) ?_
  refine wq_callX (vx_runV (As := [.int p1]) (rest := []) ⟨hx, hb, hml, hown, hts⟩ (m_X1_start l hnt hq (p1)) (cwV 1 hts gL_does_X1_start rfl rfl rfl (by decide +kernel) ⟨Nat.le_of_ble_eq_true rfl, Nat.le_of_ble_eq_true rfl⟩) (wo_pX (p := p) hK hE hZ hw.1 hA hq.1 rfl) rfl rfl hl.1 rfl (lv_room (Nat.le_of_ble_eq_true rfl)) dL_does_20 ⟨Nat.le_of_ble_eq_true rfl, Nat.le_of_ble_eq_true rfl⟩) hw hA (fun E ce q H locs hpE hw hcell hcv hcl => ?_) (fun rw_1 Lw_1 fw_1 H locs hpost hw => ?_)
  · rcases hpE with ⟨rfl, hC⟩ | ⟨rfl, hC⟩
    · refine vx_catch (own := RL) hown [] ⟨0, 151, 152, 55⟩ [⟨0, 151, 157, 57⟩, ⟨0, 151, 162, 59⟩] (htab.trans rfl) (fun z hz => absurd hz List.not_mem_nil) (by decide) (by decide) (hts (.classLink RL 55 "java/lang/IndexOutOfBoundsException") (by decide +kernel)) (va_Nw.use rfl (hE.2.2.1 _ (by decide))) hcell hcv hcl ?_
      refine lv_astore (lv' := [(6, .ref q), (0, .ref ox), (1, .int 1), (2, .int p1), (3, .int p2), (4, .int p3), (5, .int (bI bb))]) hx hb dL_does_152 hl (by decide) rfl (fun ls hl => ?_)
      refine lv_bipush (v := (-30)) hx hb dL_does_154 (by decide) ?_
      exact wq_iretX hx hb hr hlocks dL_does_156 hw (Nat.le_of_ble_eq_true rfl) (Nat.le_of_ble_eq_true rfl) (Or.inr ⟨by rw [hC]; decide, congrArg Value.int (by rw [hC]; decide), rfl, rfl⟩)
    · refine vx_catch (own := RL) hown [⟨0, 151, 152, 55⟩, ⟨0, 151, 157, 57⟩] ⟨0, 151, 162, 59⟩ [] (htab.trans rfl) (fun z hz => by
          rcases List.mem_cons.mp hz with h | h
          · rw [h]; exact Or.inr ⟨by decide, _, hts (.classLink RL 55 "java/lang/IndexOutOfBoundsException") (by decide +kernel), hN.1⟩
          · rw [List.mem_singleton.mp h]; exact Or.inr ⟨by decide, _, hts (.classLink RL 57 "java/lang/IllegalArgumentException") (by decide +kernel), hN.2.2⟩) (by decide) (by decide) (hts (.classLink RL 59 "java/lang/IllegalStateException") (by decide +kernel)) (va_Nw.use rfl (hE.2.2.1 _ (by decide))) hcell hcv hcl ?_
      refine lv_astore (lv' := [(6, .ref q), (0, .ref ox), (1, .int 1), (2, .int p1), (3, .int p2), (4, .int p3), (5, .int (bI bb))]) hx hb dL_does_162 hl (by decide) rfl (fun ls hl => ?_)
      refine lv_bipush (v := (-10)) hx hb dL_does_164 (by decide) ?_
      exact wq_iretX hx hb hr hlocks dL_does_166 hw (Nat.le_of_ble_eq_true rfl) (Nat.le_of_ble_eq_true rfl) (Or.inr ⟨by rw [hC]; decide, congrArg Value.int (by rw [hC]; decide), rfl, rfl⟩)
  obtain ⟨hC, er, ra2, ar2, hS⟩ := hpost
  subst er
  refine lv_goto (tgt := 151) hx hb dL_does_23 (by decide) ?_
  exact wq_iretX hx hb hr hlocks dL_does_151 hw (Nat.le_of_ble_eq_true rfl) (Nat.le_of_ble_eq_true rfl) (Or.inl ⟨hC, rfl, ra2, ar2, hS⟩)
set_option maxHeartbeats 4000000 in
set_option maxRecDepth 100000 in
theorem m_L_does_book (l : Launch) (hnt : l.stackTraces = false) {G : wy_G} {L : List Nat} {f fa : Nat → va_E} {sz : Nat} {ox lo : Nat} {ra ar : Nat → Nat} {n : Nat} {km mn : Int32} {wk : Nat} {po : Nat → Int32} {rr : Nat → wr_V} (hq : wx_S G L f ox lo ra ar n km mn wk po rr) (p1 p2 p3 : Int32) (bb : Bool) : vx_Met l yL_does wsL_does ({ frames := 9, cells := 4, slots := 24, locals := 149 } : Room) (va_Pc [.ref ox, .int 2, .int p1, .int p2, .int p3, .int (bI bb)] (wq_P G L f [] fa sz)) (wq_Q G L [] sz (wd_p G ox lo n km mn wk po (va_up rr (ix p1) (vBook (rr (ix p1)) (ix p2))) L f ((freeR (vBook (rr (ix p1)) (ix p2)))) (rdC n p1 p2 (bkB (rr (ix p1)) (ix p2))) (de2 (rdC n p1 p2 (bkB (rr (ix p1)) (ix p2)))))) (fun _ _ _ => False) 4 24 (wy_A (L ++ []) sz) := by
  refine vx_ofWH (cc := cL_does) (maxL := 7) (ret := (some .int)) (hh := [(0, 151, 152, 55), (0, 151, 157, 57), (0, 151, 162, 59)]) (by decide) rfl ?_
  intro p e s m args below meth c s₁ B hml hv
  obtain ⟨rfl, hP⟩ := hv
  obtain ⟨hw, hK, hA⟩ := wq_start hP
  obtain ⟨hv, -, -, hE, hZ, hN⟩ := hP
  have hsz := hv.1
  subst hsz
  have hx := B.exec
  have hb := B.bytes
  have hr := B.returns
  have hts := atoms_spec (ws := wsL_does) B.pre
  have hown : s.vm.findClass RL = some m.cls := findClass_of_methodNamed B.named
  have hlocks := B.notSynchronized
  have htab := vx_table (x := yL_does) B (hts (.codeWith yL_does cL_does 7 (some .int) [(0, 151, 152, 55), (0, 151, 157, 57), (0, 151, 162, 59)]) List.mem_cons_self)
  have hl := lv_entry ([.ref ox, .int 2, .int p1, .int p2, .int p3, .int (bI bb)]) (n := 7) (Nat.le_of_ble_eq_true rfl)
  rw [lg_entry_eq]
  generalize (lg_sl ([.ref ox, .int 2, .int p1, .int p2, .int p3, .int (bI bb)]) ++ List.replicate (7 - (lg_sl ([.ref ox, .int 2, .int p1, .int p2, .int p3, .int (bI bb)])).length) Slot.unset).toArray = ls at hl ⊢
  have hl : lv_has ls 7 [(0, .ref ox), (1, .int 2), (2, .int p1), (3, .int p2), (4, .int p3), (5, .int (bI bb))] := hl
  refine lv_iload_n hx hb dL_does_0 rfl (lv_at hl 1 rfl) ?_
  refine lv_if_ne (tgt := 13) hx hb dL_does_1 (by decide) (fun _ => ?_) (fun z => absurd z (by decide))
  refine lv_iload_n hx hb dL_does_13 rfl (lv_at hl 1 rfl) ?_
  refine lv_iconst (v := 1) hx hb dL_does_14 (by decide) ?_
  refine lv_icmp_ne (tgt := 26) hx hb dL_does_15 (by decide) (fun _ => ?_) (fun z => absurd z (by decide))
  refine lv_iload_n hx hb dL_does_26 rfl (lv_at hl 1 rfl) ?_
  refine lv_iconst (v := 2) hx hb dL_does_27 (by decide) ?_
  refine lv_icmp_ne (tgt := 40) hx hb dL_does_28 (by decide) (fun z => absurd z (by decide)) (fun _ => ?_)
  refine lv_aload_n hx hb dL_does_31 rfl (lv_at hl 0 rfl) ?_
  refine lv_iload_n hx hb dL_does_32 rfl (lv_at hl 2 rfl) ?_
  refine lv_iload_n hx hb dL_does_33 rfl (lv_at hl 3 rfl) ?_
  refine wq_callX (vx_runV (As := [.int p1, .int p2]) (rest := []) ⟨hx, hb, hml, hown, hts⟩ (m_X1_book l hnt hq (p1) (p2)) (cwV 2 hts gL_does_X1_book rfl rfl rfl (by decide +kernel) ⟨Nat.le_of_ble_eq_true rfl, Nat.le_of_ble_eq_true rfl⟩) (wt_pV hK hE hw.1 hA hq.1 rfl) rfl rfl hl.1 rfl (lv_room (Nat.le_of_ble_eq_true rfl)) dL_does_34 ⟨Nat.le_of_ble_eq_true rfl, Nat.le_of_ble_eq_true rfl⟩) hw hA (fun E ce q H locs hpE hw hcell hcv hcl => ?_) (fun rw_1 Lw_1 fw_1 H locs hpost hw => ?_)
  · rcases hpE with ⟨rfl, hC⟩ | ⟨rfl, hC⟩
    · refine vx_catch (own := RL) hown [] ⟨0, 151, 152, 55⟩ [⟨0, 151, 157, 57⟩, ⟨0, 151, 162, 59⟩] (htab.trans rfl) (fun z hz => absurd hz List.not_mem_nil) (by decide) (by decide) (hts (.classLink RL 55 "java/lang/IndexOutOfBoundsException") (by decide +kernel)) (va_Nw.use rfl (hE.2.2.1 _ (by decide))) hcell hcv hcl ?_
      refine lv_astore (lv' := [(6, .ref q), (0, .ref ox), (1, .int 2), (2, .int p1), (3, .int p2), (4, .int p3), (5, .int (bI bb))]) hx hb dL_does_152 hl (by decide) rfl (fun ls hl => ?_)
      refine lv_bipush (v := (-30)) hx hb dL_does_154 (by decide) ?_
      exact wq_iretX hx hb hr hlocks dL_does_156 hw (Nat.le_of_ble_eq_true rfl) (Nat.le_of_ble_eq_true rfl) (Or.inr ⟨by rw [hC]; decide, congrArg Value.int (by rw [hC]; decide), rfl, rfl⟩)
    · refine vx_catch (own := RL) hown [⟨0, 151, 152, 55⟩, ⟨0, 151, 157, 57⟩] ⟨0, 151, 162, 59⟩ [] (htab.trans rfl) (fun z hz => by
          rcases List.mem_cons.mp hz with h | h
          · rw [h]; exact Or.inr ⟨by decide, _, hts (.classLink RL 55 "java/lang/IndexOutOfBoundsException") (by decide +kernel), hN.1⟩
          · rw [List.mem_singleton.mp h]; exact Or.inr ⟨by decide, _, hts (.classLink RL 57 "java/lang/IllegalArgumentException") (by decide +kernel), hN.2.2⟩) (by decide) (by decide) (hts (.classLink RL 59 "java/lang/IllegalStateException") (by decide +kernel)) (va_Nw.use rfl (hE.2.2.1 _ (by decide))) hcell hcv hcl ?_
      refine lv_astore (lv' := [(6, .ref q), (0, .ref ox), (1, .int 2), (2, .int p1), (3, .int p2), (4, .int p3), (5, .int (bI bb))]) hx hb dL_does_162 hl (by decide) rfl (fun ls hl => ?_)
      refine lv_bipush (v := (-10)) hx hb dL_does_164 (by decide) ?_
      exact wq_iretX hx hb hr hlocks dL_does_166 hw (Nat.le_of_ble_eq_true rfl) (Nat.le_of_ble_eq_true rfl) (Or.inr ⟨by rw [hC]; decide, congrArg Value.int (by rw [hC]; decide), rfl, rfl⟩)
  obtain ⟨hC, er, ra2, ar2, hS⟩ := hpost
  subst er
  refine lv_goto (tgt := 151) hx hb dL_does_37 (by decide) ?_
  exact wq_iretX hx hb hr hlocks dL_does_151 hw (Nat.le_of_ble_eq_true rfl) (Nat.le_of_ble_eq_true rfl) (Or.inl ⟨hC, rfl, ra2, ar2, hS⟩)
set_option maxHeartbeats 4000000 in
set_option maxRecDepth 100000 in
theorem m_L_does_cancel (l : Launch) (hnt : l.stackTraces = false) {G : wy_G} {L : List Nat} {f fa : Nat → va_E} {sz : Nat} {ox lo : Nat} {ra ar : Nat → Nat} {n : Nat} {km mn : Int32} {wk : Nat} {po : Nat → Int32} {rr : Nat → wr_V} (hq : wx_S G L f ox lo ra ar n km mn wk po rr) (p1 p2 p3 : Int32) (bb : Bool) : vx_Met l yL_does wsL_does ({ frames := 9, cells := 4, slots := 24, locals := 149 } : Room) (va_Pc [.ref ox, .int 3, .int p1, .int p2, .int p3, .int (bI bb)] (wq_P G L f [] fa sz)) (wq_Q G L [] sz (wd_p G ox lo n km mn wk po (va_up rr (ix p1) (vDrop (rr (ix p1)) (ix p2))) L f ((feeR (rr (ix p1)))) (rdC n p1 p2 (cnB (rr (ix p1)) (ix p2))) (de2 (rdC n p1 p2 (cnB (rr (ix p1)) (ix p2)))))) (fun _ _ _ => False) 4 24 (wy_A (L ++ []) sz) := by
  refine vx_ofWH (cc := cL_does) (maxL := 7) (ret := (some .int)) (hh := [(0, 151, 152, 55), (0, 151, 157, 57), (0, 151, 162, 59)]) (by decide) rfl ?_
  intro p e s m args below meth c s₁ B hml hv
  obtain ⟨rfl, hP⟩ := hv
  obtain ⟨hw, hK, hA⟩ := wq_start hP
  obtain ⟨hv, -, -, hE, hZ, hN⟩ := hP
  have hsz := hv.1
  subst hsz
  have hx := B.exec
  have hb := B.bytes
  have hr := B.returns
  have hts := atoms_spec (ws := wsL_does) B.pre
  have hown : s.vm.findClass RL = some m.cls := findClass_of_methodNamed B.named
  have hlocks := B.notSynchronized
  have htab := vx_table (x := yL_does) B (hts (.codeWith yL_does cL_does 7 (some .int) [(0, 151, 152, 55), (0, 151, 157, 57), (0, 151, 162, 59)]) List.mem_cons_self)
  have hl := lv_entry ([.ref ox, .int 3, .int p1, .int p2, .int p3, .int (bI bb)]) (n := 7) (Nat.le_of_ble_eq_true rfl)
  rw [lg_entry_eq]
  generalize (lg_sl ([.ref ox, .int 3, .int p1, .int p2, .int p3, .int (bI bb)]) ++ List.replicate (7 - (lg_sl ([.ref ox, .int 3, .int p1, .int p2, .int p3, .int (bI bb)])).length) Slot.unset).toArray = ls at hl ⊢
  have hl : lv_has ls 7 [(0, .ref ox), (1, .int 3), (2, .int p1), (3, .int p2), (4, .int p3), (5, .int (bI bb))] := hl
  refine lv_iload_n hx hb dL_does_0 rfl (lv_at hl 1 rfl) ?_
  refine lv_if_ne (tgt := 13) hx hb dL_does_1 (by decide) (fun _ => ?_) (fun z => absurd z (by decide))
  refine lv_iload_n hx hb dL_does_13 rfl (lv_at hl 1 rfl) ?_
  refine lv_iconst (v := 1) hx hb dL_does_14 (by decide) ?_
  refine lv_icmp_ne (tgt := 26) hx hb dL_does_15 (by decide) (fun _ => ?_) (fun z => absurd z (by decide))
  refine lv_iload_n hx hb dL_does_26 rfl (lv_at hl 1 rfl) ?_
  refine lv_iconst (v := 2) hx hb dL_does_27 (by decide) ?_
  refine lv_icmp_ne (tgt := 40) hx hb dL_does_28 (by decide) (fun _ => ?_) (fun z => absurd z (by decide))
  refine lv_iload_n hx hb dL_does_40 rfl (lv_at hl 1 rfl) ?_
  refine lv_iconst (v := 3) hx hb dL_does_41 (by decide) ?_
  refine lv_icmp_ne (tgt := 54) hx hb dL_does_42 (by decide) (fun z => absurd z (by decide)) (fun _ => ?_)
  refine lv_aload_n hx hb dL_does_45 rfl (lv_at hl 0 rfl) ?_
  refine lv_iload_n hx hb dL_does_46 rfl (lv_at hl 2 rfl) ?_
  refine lv_iload_n hx hb dL_does_47 rfl (lv_at hl 3 rfl) ?_
  refine wq_callX (vx_runV (As := [.int p1, .int p2]) (rest := []) ⟨hx, hb, hml, hown, hts⟩ (m_X1_cancel l hnt hq (p1) (p2)) (cwV 2 hts gL_does_X1_cancel rfl rfl rfl (by decide +kernel) ⟨Nat.le_of_ble_eq_true rfl, Nat.le_of_ble_eq_true rfl⟩) (wt_pV hK hE hw.1 hA hq.1 rfl) rfl rfl hl.1 rfl (lv_room (Nat.le_of_ble_eq_true rfl)) dL_does_48 ⟨Nat.le_of_ble_eq_true rfl, Nat.le_of_ble_eq_true rfl⟩) hw hA (fun E ce q H locs hpE hw hcell hcv hcl => ?_) (fun rw_1 Lw_1 fw_1 H locs hpost hw => ?_)
  · rcases hpE with ⟨rfl, hC⟩ | ⟨rfl, hC⟩
    · refine vx_catch (own := RL) hown [] ⟨0, 151, 152, 55⟩ [⟨0, 151, 157, 57⟩, ⟨0, 151, 162, 59⟩] (htab.trans rfl) (fun z hz => absurd hz List.not_mem_nil) (by decide) (by decide) (hts (.classLink RL 55 "java/lang/IndexOutOfBoundsException") (by decide +kernel)) (va_Nw.use rfl (hE.2.2.1 _ (by decide))) hcell hcv hcl ?_
      refine lv_astore (lv' := [(6, .ref q), (0, .ref ox), (1, .int 3), (2, .int p1), (3, .int p2), (4, .int p3), (5, .int (bI bb))]) hx hb dL_does_152 hl (by decide) rfl (fun ls hl => ?_)
      refine lv_bipush (v := (-30)) hx hb dL_does_154 (by decide) ?_
      exact wq_iretX hx hb hr hlocks dL_does_156 hw (Nat.le_of_ble_eq_true rfl) (Nat.le_of_ble_eq_true rfl) (Or.inr ⟨by rw [hC]; decide, congrArg Value.int (by rw [hC]; decide), rfl, rfl⟩)
    · refine vx_catch (own := RL) hown [⟨0, 151, 152, 55⟩, ⟨0, 151, 157, 57⟩] ⟨0, 151, 162, 59⟩ [] (htab.trans rfl) (fun z hz => by
          rcases List.mem_cons.mp hz with h | h
          · rw [h]; exact Or.inr ⟨by decide, _, hts (.classLink RL 55 "java/lang/IndexOutOfBoundsException") (by decide +kernel), hN.1⟩
          · rw [List.mem_singleton.mp h]; exact Or.inr ⟨by decide, _, hts (.classLink RL 57 "java/lang/IllegalArgumentException") (by decide +kernel), hN.2.2⟩) (by decide) (by decide) (hts (.classLink RL 59 "java/lang/IllegalStateException") (by decide +kernel)) (va_Nw.use rfl (hE.2.2.1 _ (by decide))) hcell hcv hcl ?_
      refine lv_astore (lv' := [(6, .ref q), (0, .ref ox), (1, .int 3), (2, .int p1), (3, .int p2), (4, .int p3), (5, .int (bI bb))]) hx hb dL_does_162 hl (by decide) rfl (fun ls hl => ?_)
      refine lv_bipush (v := (-10)) hx hb dL_does_164 (by decide) ?_
      exact wq_iretX hx hb hr hlocks dL_does_166 hw (Nat.le_of_ble_eq_true rfl) (Nat.le_of_ble_eq_true rfl) (Or.inr ⟨by rw [hC]; decide, congrArg Value.int (by rw [hC]; decide), rfl, rfl⟩)
  obtain ⟨hC, er, ra2, ar2, hS⟩ := hpost
  subst er
  refine lv_goto (tgt := 151) hx hb dL_does_51 (by decide) ?_
  exact wq_iretX hx hb hr hlocks dL_does_151 hw (Nat.le_of_ble_eq_true rfl) (Nat.le_of_ble_eq_true rfl) (Or.inl ⟨hC, rfl, ra2, ar2, hS⟩)
set_option maxHeartbeats 4000000 in
set_option maxRecDepth 100000 in
theorem m_L_does_board (l : Launch) (hnt : l.stackTraces = false) {G : wy_G} {L : List Nat} {f fa : Nat → va_E} {sz : Nat} {ox lo : Nat} {ra ar : Nat → Nat} {n : Nat} {km mn : Int32} {wk : Nat} {po : Nat → Int32} {rr : Nat → wr_V} (hq : wx_S G L f ox lo ra ar n km mn wk po rr) (p1 p2 p3 : Int32) (bb : Bool) : vx_Met l yL_does wsL_does ({ frames := 9, cells := 4, slots := 24, locals := 149 } : Room) (va_Pc [.ref ox, .int 4, .int p1, .int p2, .int p3, .int (bI bb)] (wq_P G L f [] fa sz)) (wq_Q G L [] sz (wd_p G ox lo n km mn wk po (va_up rr (ix p1) (vTake (rr (ix p1)) (ix p2))) L f ((nI (cb (va_up (rsd (rr (ix p1))) (ix p2) true) 10))) (rdC n p1 p2 (bdB (rr (ix p1)) (ix p2))) (de2 (rdC n p1 p2 (bdB (rr (ix p1)) (ix p2)))))) (fun _ _ _ => False) 4 24 (wy_A (L ++ []) sz) := by
  refine vx_ofWH (cc := cL_does) (maxL := 7) (ret := (some .int)) (hh := [(0, 151, 152, 55), (0, 151, 157, 57), (0, 151, 162, 59)]) (by decide) rfl ?_
  intro p e s m args below meth c s₁ B hml hv
  obtain ⟨rfl, hP⟩ := hv
  obtain ⟨hw, hK, hA⟩ := wq_start hP
  obtain ⟨hv, -, -, hE, hZ, hN⟩ := hP
  have hsz := hv.1
  subst hsz
  have hx := B.exec
  have hb := B.bytes
  have hr := B.returns
  have hts := atoms_spec (ws := wsL_does) B.pre
  have hown : s.vm.findClass RL = some m.cls := findClass_of_methodNamed B.named
  have hlocks := B.notSynchronized
  have htab := vx_table (x := yL_does) B (hts (.codeWith yL_does cL_does 7 (some .int) [(0, 151, 152, 55), (0, 151, 157, 57), (0, 151, 162, 59)]) List.mem_cons_self)
  have hl := lv_entry ([.ref ox, .int 4, .int p1, .int p2, .int p3, .int (bI bb)]) (n := 7) (Nat.le_of_ble_eq_true rfl)
  rw [lg_entry_eq]
  generalize (lg_sl ([.ref ox, .int 4, .int p1, .int p2, .int p3, .int (bI bb)]) ++ List.replicate (7 - (lg_sl ([.ref ox, .int 4, .int p1, .int p2, .int p3, .int (bI bb)])).length) Slot.unset).toArray = ls at hl ⊢
  have hl : lv_has ls 7 [(0, .ref ox), (1, .int 4), (2, .int p1), (3, .int p2), (4, .int p3), (5, .int (bI bb))] := hl
  refine lv_iload_n hx hb dL_does_0 rfl (lv_at hl 1 rfl) ?_
  refine lv_if_ne (tgt := 13) hx hb dL_does_1 (by decide) (fun _ => ?_) (fun z => absurd z (by decide))
  refine lv_iload_n hx hb dL_does_13 rfl (lv_at hl 1 rfl) ?_
  refine lv_iconst (v := 1) hx hb dL_does_14 (by decide) ?_
  refine lv_icmp_ne (tgt := 26) hx hb dL_does_15 (by decide) (fun _ => ?_) (fun z => absurd z (by decide))
  refine lv_iload_n hx hb dL_does_26 rfl (lv_at hl 1 rfl) ?_
  refine lv_iconst (v := 2) hx hb dL_does_27 (by decide) ?_
  refine lv_icmp_ne (tgt := 40) hx hb dL_does_28 (by decide) (fun _ => ?_) (fun z => absurd z (by decide))
  refine lv_iload_n hx hb dL_does_40 rfl (lv_at hl 1 rfl) ?_
  refine lv_iconst (v := 3) hx hb dL_does_41 (by decide) ?_
  refine lv_icmp_ne (tgt := 54) hx hb dL_does_42 (by decide) (fun _ => ?_) (fun z => absurd z (by decide))
  refine lv_iload_n hx hb dL_does_54 rfl (lv_at hl 1 rfl) ?_
  refine lv_iconst (v := 4) hx hb dL_does_55 (by decide) ?_
  refine lv_icmp_ne (tgt := 68) hx hb dL_does_56 (by decide) (fun z => absurd z (by decide)) (fun _ => ?_)
  refine lv_aload_n hx hb dL_does_59 rfl (lv_at hl 0 rfl) ?_
  refine lv_iload_n hx hb dL_does_60 rfl (lv_at hl 2 rfl) ?_
  refine lv_iload_n hx hb dL_does_61 rfl (lv_at hl 3 rfl) ?_
  refine wq_callX (vx_runV (As := [.int p1, .int p2]) (rest := []) ⟨hx, hb, hml, hown, hts⟩ (m_X1_board l hnt hq (p1) (p2)) (cwV 2 hts gL_does_X1_board rfl rfl rfl (by decide +kernel) ⟨Nat.le_of_ble_eq_true rfl, Nat.le_of_ble_eq_true rfl⟩) (wt_pV hK hE hw.1 hA hq.1 rfl) rfl rfl hl.1 rfl (lv_room (Nat.le_of_ble_eq_true rfl)) dL_does_62 ⟨Nat.le_of_ble_eq_true rfl, Nat.le_of_ble_eq_true rfl⟩) hw hA (fun E ce q H locs hpE hw hcell hcv hcl => ?_) (fun rw_1 Lw_1 fw_1 H locs hpost hw => ?_)
  · rcases hpE with ⟨rfl, hC⟩ | ⟨rfl, hC⟩
    · refine vx_catch (own := RL) hown [] ⟨0, 151, 152, 55⟩ [⟨0, 151, 157, 57⟩, ⟨0, 151, 162, 59⟩] (htab.trans rfl) (fun z hz => absurd hz List.not_mem_nil) (by decide) (by decide) (hts (.classLink RL 55 "java/lang/IndexOutOfBoundsException") (by decide +kernel)) (va_Nw.use rfl (hE.2.2.1 _ (by decide))) hcell hcv hcl ?_
      refine lv_astore (lv' := [(6, .ref q), (0, .ref ox), (1, .int 4), (2, .int p1), (3, .int p2), (4, .int p3), (5, .int (bI bb))]) hx hb dL_does_152 hl (by decide) rfl (fun ls hl => ?_)
      refine lv_bipush (v := (-30)) hx hb dL_does_154 (by decide) ?_
      exact wq_iretX hx hb hr hlocks dL_does_156 hw (Nat.le_of_ble_eq_true rfl) (Nat.le_of_ble_eq_true rfl) (Or.inr ⟨by rw [hC]; decide, congrArg Value.int (by rw [hC]; decide), rfl, rfl⟩)
    · refine vx_catch (own := RL) hown [⟨0, 151, 152, 55⟩, ⟨0, 151, 157, 57⟩] ⟨0, 151, 162, 59⟩ [] (htab.trans rfl) (fun z hz => by
          rcases List.mem_cons.mp hz with h | h
          · rw [h]; exact Or.inr ⟨by decide, _, hts (.classLink RL 55 "java/lang/IndexOutOfBoundsException") (by decide +kernel), hN.1⟩
          · rw [List.mem_singleton.mp h]; exact Or.inr ⟨by decide, _, hts (.classLink RL 57 "java/lang/IllegalArgumentException") (by decide +kernel), hN.2.2⟩) (by decide) (by decide) (hts (.classLink RL 59 "java/lang/IllegalStateException") (by decide +kernel)) (va_Nw.use rfl (hE.2.2.1 _ (by decide))) hcell hcv hcl ?_
      refine lv_astore (lv' := [(6, .ref q), (0, .ref ox), (1, .int 4), (2, .int p1), (3, .int p2), (4, .int p3), (5, .int (bI bb))]) hx hb dL_does_162 hl (by decide) rfl (fun ls hl => ?_)
      refine lv_bipush (v := (-10)) hx hb dL_does_164 (by decide) ?_
      exact wq_iretX hx hb hr hlocks dL_does_166 hw (Nat.le_of_ble_eq_true rfl) (Nat.le_of_ble_eq_true rfl) (Or.inr ⟨by rw [hC]; decide, congrArg Value.int (by rw [hC]; decide), rfl, rfl⟩)
  obtain ⟨hC, er, ra2, ar2, hS⟩ := hpost
  subst er
  refine lv_goto (tgt := 151) hx hb dL_does_65 (by decide) ?_
  exact wq_iretX hx hb hr hlocks dL_does_151 hw (Nat.le_of_ble_eq_true rfl) (Nat.le_of_ble_eq_true rfl) (Or.inl ⟨hC, rfl, ra2, ar2, hS⟩)
set_option maxHeartbeats 4000000 in
set_option maxRecDepth 100000 in
theorem m_L_does_leave (l : Launch) (hnt : l.stackTraces = false) {G : wy_G} {L : List Nat} {f fa : Nat → va_E} {sz : Nat} {ox lo : Nat} {ra ar : Nat → Nat} {n : Nat} {km mn : Int32} {wk : Nat} {po : Nat → Int32} {rr : Nat → wr_V} (hq : wx_S G L f ox lo ra ar n km mn wk po rr) (p1 p2 p3 : Int32) (bb : Bool) : vx_Met l yL_does wsL_does ({ frames := 9, cells := 4, slots := 24, locals := 149 } : Room) (va_Pc [.ref ox, .int 5, .int p1, .int p2, .int p3, .int (bI bb)] (wq_P G L f [] fa sz)) (wq_Q G L [] sz (wd_p G ox lo n km mn wk po (va_up rr (ix p1) (vOut (rr (ix p1)) (ix p2))) L f ((rch (rr (ix p1)) (ix p2))) (rdC n p1 p2 (lvB (rr (ix p1)) (ix p2))) (de2 (rdC n p1 p2 (lvB (rr (ix p1)) (ix p2)))))) (fun _ _ _ => False) 4 24 (wy_A (L ++ []) sz) := by
  refine vx_ofWH (cc := cL_does) (maxL := 7) (ret := (some .int)) (hh := [(0, 151, 152, 55), (0, 151, 157, 57), (0, 151, 162, 59)]) (by decide) rfl ?_
  intro p e s m args below meth c s₁ B hml hv
  obtain ⟨rfl, hP⟩ := hv
  obtain ⟨hw, hK, hA⟩ := wq_start hP
  obtain ⟨hv, -, -, hE, hZ, hN⟩ := hP
  have hsz := hv.1
  subst hsz
  have hx := B.exec
  have hb := B.bytes
  have hr := B.returns
  have hts := atoms_spec (ws := wsL_does) B.pre
  have hown : s.vm.findClass RL = some m.cls := findClass_of_methodNamed B.named
  have hlocks := B.notSynchronized
  have htab := vx_table (x := yL_does) B (hts (.codeWith yL_does cL_does 7 (some .int) [(0, 151, 152, 55), (0, 151, 157, 57), (0, 151, 162, 59)]) List.mem_cons_self)
  have hl := lv_entry ([.ref ox, .int 5, .int p1, .int p2, .int p3, .int (bI bb)]) (n := 7) (Nat.le_of_ble_eq_true rfl)
  rw [lg_entry_eq]
  generalize (lg_sl ([.ref ox, .int 5, .int p1, .int p2, .int p3, .int (bI bb)]) ++ List.replicate (7 - (lg_sl ([.ref ox, .int 5, .int p1, .int p2, .int p3, .int (bI bb)])).length) Slot.unset).toArray = ls at hl ⊢
  have hl : lv_has ls 7 [(0, .ref ox), (1, .int 5), (2, .int p1), (3, .int p2), (4, .int p3), (5, .int (bI bb))] := hl
  refine lv_iload_n hx hb dL_does_0 rfl (lv_at hl 1 rfl) ?_
  refine lv_if_ne (tgt := 13) hx hb dL_does_1 (by decide) (fun _ => ?_) (fun z => absurd z (by decide))
  refine lv_iload_n hx hb dL_does_13 rfl (lv_at hl 1 rfl) ?_
  refine lv_iconst (v := 1) hx hb dL_does_14 (by decide) ?_
  refine lv_icmp_ne (tgt := 26) hx hb dL_does_15 (by decide) (fun _ => ?_) (fun z => absurd z (by decide))
  refine lv_iload_n hx hb dL_does_26 rfl (lv_at hl 1 rfl) ?_
  refine lv_iconst (v := 2) hx hb dL_does_27 (by decide) ?_
  refine lv_icmp_ne (tgt := 40) hx hb dL_does_28 (by decide) (fun _ => ?_) (fun z => absurd z (by decide))
  refine lv_iload_n hx hb dL_does_40 rfl (lv_at hl 1 rfl) ?_
  refine lv_iconst (v := 3) hx hb dL_does_41 (by decide) ?_
  refine lv_icmp_ne (tgt := 54) hx hb dL_does_42 (by decide) (fun _ => ?_) (fun z => absurd z (by decide))
  refine lv_iload_n hx hb dL_does_54 rfl (lv_at hl 1 rfl) ?_
  refine lv_iconst (v := 4) hx hb dL_does_55 (by decide) ?_
  refine lv_icmp_ne (tgt := 68) hx hb dL_does_56 (by decide) (fun _ => ?_) (fun z => absurd z (by decide))
  refine lv_iload_n hx hb dL_does_68 rfl (lv_at hl 1 rfl) ?_
  refine lv_iconst (v := 5) hx hb dL_does_69 (by decide) ?_
  refine lv_icmp_ne (tgt := 82) hx hb dL_does_70 (by decide) (fun z => absurd z (by decide)) (fun _ => ?_)
  refine lv_aload_n hx hb dL_does_73 rfl (lv_at hl 0 rfl) ?_
  refine lv_iload_n hx hb dL_does_74 rfl (lv_at hl 2 rfl) ?_
  refine lv_iload_n hx hb dL_does_75 rfl (lv_at hl 3 rfl) ?_
  refine wq_callX (vx_runV (As := [.int p1, .int p2]) (rest := []) ⟨hx, hb, hml, hown, hts⟩ (m_X1_leave l hnt hq (p1) (p2)) (cwV 2 hts gL_does_X1_leave rfl rfl rfl (by decide +kernel) ⟨Nat.le_of_ble_eq_true rfl, Nat.le_of_ble_eq_true rfl⟩) (wt_pV hK hE hw.1 hA hq.1 rfl) rfl rfl hl.1 rfl (lv_room (Nat.le_of_ble_eq_true rfl)) dL_does_76 ⟨Nat.le_of_ble_eq_true rfl, Nat.le_of_ble_eq_true rfl⟩) hw hA (fun E ce q H locs hpE hw hcell hcv hcl => ?_) (fun rw_1 Lw_1 fw_1 H locs hpost hw => ?_)
  · rcases hpE with ⟨rfl, hC⟩ | ⟨rfl, hC⟩
    · refine vx_catch (own := RL) hown [] ⟨0, 151, 152, 55⟩ [⟨0, 151, 157, 57⟩, ⟨0, 151, 162, 59⟩] (htab.trans rfl) (fun z hz => absurd hz List.not_mem_nil) (by decide) (by decide) (hts (.classLink RL 55 "java/lang/IndexOutOfBoundsException") (by decide +kernel)) (va_Nw.use rfl (hE.2.2.1 _ (by decide))) hcell hcv hcl ?_
      refine lv_astore (lv' := [(6, .ref q), (0, .ref ox), (1, .int 5), (2, .int p1), (3, .int p2), (4, .int p3), (5, .int (bI bb))]) hx hb dL_does_152 hl (by decide) rfl (fun ls hl => ?_)
      refine lv_bipush (v := (-30)) hx hb dL_does_154 (by decide) ?_
      exact wq_iretX hx hb hr hlocks dL_does_156 hw (Nat.le_of_ble_eq_true rfl) (Nat.le_of_ble_eq_true rfl) (Or.inr ⟨by rw [hC]; decide, congrArg Value.int (by rw [hC]; decide), rfl, rfl⟩)
    · refine vx_catch (own := RL) hown [⟨0, 151, 152, 55⟩, ⟨0, 151, 157, 57⟩] ⟨0, 151, 162, 59⟩ [] (htab.trans rfl) (fun z hz => by
          rcases List.mem_cons.mp hz with h | h
          · rw [h]; exact Or.inr ⟨by decide, _, hts (.classLink RL 55 "java/lang/IndexOutOfBoundsException") (by decide +kernel), hN.1⟩
          · rw [List.mem_singleton.mp h]; exact Or.inr ⟨by decide, _, hts (.classLink RL 57 "java/lang/IllegalArgumentException") (by decide +kernel), hN.2.2⟩) (by decide) (by decide) (hts (.classLink RL 59 "java/lang/IllegalStateException") (by decide +kernel)) (va_Nw.use rfl (hE.2.2.1 _ (by decide))) hcell hcv hcl ?_
      refine lv_astore (lv' := [(6, .ref q), (0, .ref ox), (1, .int 5), (2, .int p1), (3, .int p2), (4, .int p3), (5, .int (bI bb))]) hx hb dL_does_162 hl (by decide) rfl (fun ls hl => ?_)
      refine lv_bipush (v := (-10)) hx hb dL_does_164 (by decide) ?_
      exact wq_iretX hx hb hr hlocks dL_does_166 hw (Nat.le_of_ble_eq_true rfl) (Nat.le_of_ble_eq_true rfl) (Or.inr ⟨by rw [hC]; decide, congrArg Value.int (by rw [hC]; decide), rfl, rfl⟩)
  obtain ⟨hC, er, ra2, ar2, hS⟩ := hpost
  subst er
  refine lv_goto (tgt := 151) hx hb dL_does_79 (by decide) ?_
  exact wq_iretX hx hb hr hlocks dL_does_151 hw (Nat.le_of_ble_eq_true rfl) (Nat.le_of_ble_eq_true rfl) (Or.inl ⟨hC, rfl, ra2, ar2, hS⟩)
set_option maxHeartbeats 4000000 in
set_option maxRecDepth 100000 in
theorem m_L_does_drive (l : Launch) (hnt : l.stackTraces = false) {G : wy_G} {L : List Nat} {f fa : Nat → va_E} {sz : Nat} {ox lo : Nat} {ra ar : Nat → Nat} {n : Nat} {km mn : Int32} {wk : Nat} {po : Nat → Int32} {rr : Nat → wr_V} (hq : wx_S G L f ox lo ra ar n km mn wk po rr) (p1 p2 p3 : Int32) (bb : Bool) : vx_Met l yL_does wsL_does ({ frames := 8, cells := 4, slots := 24, locals := 128 } : Room) (va_Pc [.ref ox, .int 6, .int p1, .int p2, .int p3, .int (bI bb)] (wq_P G L f [] fa sz)) (wq_Q G L [] sz (wd_p G ox lo n km mn wk po (va_up rr (ix p1) (vStr (rr (ix p1)) (p2 * km + p3 * mn) p3)) L f ((if cb (rsd (rr (ix p1))) 10 = 0 then 0 else p2 * km + p3 * mn)) (dvC n p1 p2 p3 (rfi (rr (ix p1)))) (de3 (dvC n p1 p2 p3 (rfi (rr (ix p1))))))) (fun _ _ _ => False) 4 24 (wy_A (L ++ []) sz) := by
  refine vx_ofWH (cc := cL_does) (maxL := 7) (ret := (some .int)) (hh := [(0, 151, 152, 55), (0, 151, 157, 57), (0, 151, 162, 59)]) (by decide) rfl ?_
  intro p e s m args below meth c s₁ B hml hv
  obtain ⟨rfl, hP⟩ := hv
  obtain ⟨hw, hK, hA⟩ := wq_start hP
  obtain ⟨hv, -, -, hE, hZ, hN⟩ := hP
  have hsz := hv.1
  subst hsz
  have hx := B.exec
  have hb := B.bytes
  have hr := B.returns
  have hts := atoms_spec (ws := wsL_does) B.pre
  have hown : s.vm.findClass RL = some m.cls := findClass_of_methodNamed B.named
  have hlocks := B.notSynchronized
  have htab := vx_table (x := yL_does) B (hts (.codeWith yL_does cL_does 7 (some .int) [(0, 151, 152, 55), (0, 151, 157, 57), (0, 151, 162, 59)]) List.mem_cons_self)
  have hl := lv_entry ([.ref ox, .int 6, .int p1, .int p2, .int p3, .int (bI bb)]) (n := 7) (Nat.le_of_ble_eq_true rfl)
  rw [lg_entry_eq]
  generalize (lg_sl ([.ref ox, .int 6, .int p1, .int p2, .int p3, .int (bI bb)]) ++ List.replicate (7 - (lg_sl ([.ref ox, .int 6, .int p1, .int p2, .int p3, .int (bI bb)])).length) Slot.unset).toArray = ls at hl ⊢
  have hl : lv_has ls 7 [(0, .ref ox), (1, .int 6), (2, .int p1), (3, .int p2), (4, .int p3), (5, .int (bI bb))] := hl
  refine lv_iload_n hx hb dL_does_0 rfl (lv_at hl 1 rfl) ?_
  refine lv_if_ne (tgt := 13) hx hb dL_does_1 (by decide) (fun _ => ?_) (fun z => absurd z (by decide))
  refine lv_iload_n hx hb dL_does_13 rfl (lv_at hl 1 rfl) ?_
  refine lv_iconst (v := 1) hx hb dL_does_14 (by decide) ?_
  refine lv_icmp_ne (tgt := 26) hx hb dL_does_15 (by decide) (fun _ => ?_) (fun z => absurd z (by decide))
  refine lv_iload_n hx hb dL_does_26 rfl (lv_at hl 1 rfl) ?_
  refine lv_iconst (v := 2) hx hb dL_does_27 (by decide) ?_
  refine lv_icmp_ne (tgt := 40) hx hb dL_does_28 (by decide) (fun _ => ?_) (fun z => absurd z (by decide))
  refine lv_iload_n hx hb dL_does_40 rfl (lv_at hl 1 rfl) ?_
  refine lv_iconst (v := 3) hx hb dL_does_41 (by decide) ?_
  refine lv_icmp_ne (tgt := 54) hx hb dL_does_42 (by decide) (fun _ => ?_) (fun z => absurd z (by decide))
  refine lv_iload_n hx hb dL_does_54 rfl (lv_at hl 1 rfl) ?_
  refine lv_iconst (v := 4) hx hb dL_does_55 (by decide) ?_
  refine lv_icmp_ne (tgt := 68) hx hb dL_does_56 (by decide) (fun _ => ?_) (fun z => absurd z (by decide))
  refine lv_iload_n hx hb dL_does_68 rfl (lv_at hl 1 rfl) ?_
  refine lv_iconst (v := 5) hx hb dL_does_69 (by decide) ?_
  refine lv_icmp_ne (tgt := 82) hx hb dL_does_70 (by decide) (fun _ => ?_) (fun z => absurd z (by decide))
  refine lv_iload_n hx hb dL_does_82 rfl (lv_at hl 1 rfl) ?_
  refine lv_bipush (v := 6) hx hb dL_does_83 (by decide) ?_
  refine lv_icmp_ne (tgt := 99) hx hb dL_does_85 (by decide) (fun z => absurd z (by decide)) (fun _ => ?_)
  refine lv_aload_n hx hb dL_does_88 rfl (lv_at hl 0 rfl) ?_
  refine lv_iload_n hx hb dL_does_89 rfl (lv_at hl 2 rfl) ?_
  refine lv_iload_n hx hb dL_does_90 rfl (lv_at hl 3 rfl) ?_
  refine lv_iload hx hb dL_does_91 (lv_at hl 4 rfl) ?_
  refine wq_callX (vx_runV (As := [.int p1, .int p2, .int p3]) (rest := []) ⟨hx, hb, hml, hown, hts⟩ (m_X1_drive l hnt hq (p1) (p2) (p3)) (cwV 3 hts gL_does_X1_drive rfl rfl rfl (by decide +kernel) ⟨Nat.le_of_ble_eq_true rfl, Nat.le_of_ble_eq_true rfl⟩) (wt_pV hK hE hw.1 hA hq.1 rfl) rfl rfl hl.1 rfl (lv_room (Nat.le_of_ble_eq_true rfl)) dL_does_93 ⟨Nat.le_of_ble_eq_true rfl, Nat.le_of_ble_eq_true rfl⟩) hw hA (fun E ce q H locs hpE hw hcell hcv hcl => ?_) (fun rw_1 Lw_1 fw_1 H locs hpost hw => ?_)
  · rcases hpE with ⟨rfl, hC⟩ | ⟨rfl, hC⟩ | ⟨rfl, hC⟩
    · refine vx_catch (own := RL) hown [] ⟨0, 151, 152, 55⟩ [⟨0, 151, 157, 57⟩, ⟨0, 151, 162, 59⟩] (htab.trans rfl) (fun z hz => absurd hz List.not_mem_nil) (by decide) (by decide) (hts (.classLink RL 55 "java/lang/IndexOutOfBoundsException") (by decide +kernel)) (va_Nw.use rfl (hE.2.2.1 _ (by decide))) hcell hcv hcl ?_
      refine lv_astore (lv' := [(6, .ref q), (0, .ref ox), (1, .int 6), (2, .int p1), (3, .int p2), (4, .int p3), (5, .int (bI bb))]) hx hb dL_does_152 hl (by decide) rfl (fun ls hl => ?_)
      refine lv_bipush (v := (-30)) hx hb dL_does_154 (by decide) ?_
      exact wq_iretX hx hb hr hlocks dL_does_156 hw (Nat.le_of_ble_eq_true rfl) (Nat.le_of_ble_eq_true rfl) (Or.inr ⟨by rw [hC]; decide, congrArg Value.int (by rw [hC]; decide), rfl, rfl⟩)
    · refine vx_catch (own := RL) hown [⟨0, 151, 152, 55⟩] ⟨0, 151, 157, 57⟩ [⟨0, 151, 162, 59⟩] (htab.trans rfl) (fun z hz => by rw [List.mem_singleton.mp hz]; exact Or.inr ⟨by decide, _, hts (.classLink RL 55 "java/lang/IndexOutOfBoundsException") (by decide +kernel), hN.2.1⟩) (by decide) (by decide) (hts (.classLink RL 57 "java/lang/IllegalArgumentException") (by decide +kernel)) (va_Nw.use rfl (hE.2.2.1 _ (by decide))) hcell hcv hcl ?_
      refine lv_astore (lv' := [(6, .ref q), (0, .ref ox), (1, .int 6), (2, .int p1), (3, .int p2), (4, .int p3), (5, .int (bI bb))]) hx hb dL_does_157 hl (by decide) rfl (fun ls hl => ?_)
      refine lv_bipush (v := (-20)) hx hb dL_does_159 (by decide) ?_
      exact wq_iretX hx hb hr hlocks dL_does_161 hw (Nat.le_of_ble_eq_true rfl) (Nat.le_of_ble_eq_true rfl) (Or.inr ⟨by rw [hC]; decide, congrArg Value.int (by rw [hC]; decide), rfl, rfl⟩)
    · refine vx_catch (own := RL) hown [⟨0, 151, 152, 55⟩, ⟨0, 151, 157, 57⟩] ⟨0, 151, 162, 59⟩ [] (htab.trans rfl) (fun z hz => by
          rcases List.mem_cons.mp hz with h | h
          · rw [h]; exact Or.inr ⟨by decide, _, hts (.classLink RL 55 "java/lang/IndexOutOfBoundsException") (by decide +kernel), hN.1⟩
          · rw [List.mem_singleton.mp h]; exact Or.inr ⟨by decide, _, hts (.classLink RL 57 "java/lang/IllegalArgumentException") (by decide +kernel), hN.2.2⟩) (by decide) (by decide) (hts (.classLink RL 59 "java/lang/IllegalStateException") (by decide +kernel)) (va_Nw.use rfl (hE.2.2.1 _ (by decide))) hcell hcv hcl ?_
      refine lv_astore (lv' := [(6, .ref q), (0, .ref ox), (1, .int 6), (2, .int p1), (3, .int p2), (4, .int p3), (5, .int (bI bb))]) hx hb dL_does_162 hl (by decide) rfl (fun ls hl => ?_)
      refine lv_bipush (v := (-10)) hx hb dL_does_164 (by decide) ?_
      exact wq_iretX hx hb hr hlocks dL_does_166 hw (Nat.le_of_ble_eq_true rfl) (Nat.le_of_ble_eq_true rfl) (Or.inr ⟨by rw [hC]; decide, congrArg Value.int (by rw [hC]; decide), rfl, rfl⟩)
  obtain ⟨hC, er, ra2, ar2, hS⟩ := hpost
  subst er
  refine lv_goto (tgt := 151) hx hb dL_does_96 (by decide) ?_
  exact wq_iretX hx hb hr hlocks dL_does_151 hw (Nat.le_of_ble_eq_true rfl) (Nat.le_of_ble_eq_true rfl) (Or.inl ⟨hC, rfl, ra2, ar2, hS⟩)
set_option maxHeartbeats 4000000 in
set_option maxRecDepth 100000 in
theorem m_L_does_finish (l : Launch) (hnt : l.stackTraces = false) {G : wy_G} {L : List Nat} {f fa : Nat → va_E} {sz : Nat} {ox lo : Nat} {ra ar : Nat → Nat} {n : Nat} {km mn : Int32} {wk : Nat} {po : Nat → Int32} {rr : Nat → wr_V} (hq : wx_S G L f ox lo ra ar n km mn wk po rr) (p1 p2 p3 : Int32) (bb : Bool) : vx_Met l yL_does wsL_does ({ frames := 8, cells := 2, slots := 12, locals := 125 } : Room) (va_Pc [.ref ox, .int 7, .int p1, .int p2, .int p3, .int (bI bb)] (wq_P G L f [] fa sz)) (wq_Q G L [] sz (wd_p G ox lo n km mn wk po (va_up rr (ix p1) (vEnd (rr (ix p1)))) L f ((bx_sum (endc (rbk (rr (ix p1))) (rch (rr (ix p1))) 10) 10)) (fnC n p1 (rfi (rr (ix p1)))) (de2 (fnC n p1 (rfi (rr (ix p1))))))) (fun _ _ _ => False) 2 12 (wy_A (L ++ []) sz) := by
  refine vx_ofWH (cc := cL_does) (maxL := 7) (ret := (some .int)) (hh := [(0, 151, 152, 55), (0, 151, 157, 57), (0, 151, 162, 59)]) (by decide) rfl ?_
  intro p e s m args below meth c s₁ B hml hv
  obtain ⟨rfl, hP⟩ := hv
  obtain ⟨hw, hK, hA⟩ := wq_start hP
  obtain ⟨hv, -, -, hE, hZ, hN⟩ := hP
  have hsz := hv.1
  subst hsz
  have hx := B.exec
  have hb := B.bytes
  have hr := B.returns
  have hts := atoms_spec (ws := wsL_does) B.pre
  have hown : s.vm.findClass RL = some m.cls := findClass_of_methodNamed B.named
  have hlocks := B.notSynchronized
  have htab := vx_table (x := yL_does) B (hts (.codeWith yL_does cL_does 7 (some .int) [(0, 151, 152, 55), (0, 151, 157, 57), (0, 151, 162, 59)]) List.mem_cons_self)
  have hl := lv_entry ([.ref ox, .int 7, .int p1, .int p2, .int p3, .int (bI bb)]) (n := 7) (Nat.le_of_ble_eq_true rfl)
  rw [lg_entry_eq]
  generalize (lg_sl ([.ref ox, .int 7, .int p1, .int p2, .int p3, .int (bI bb)]) ++ List.replicate (7 - (lg_sl ([.ref ox, .int 7, .int p1, .int p2, .int p3, .int (bI bb)])).length) Slot.unset).toArray = ls at hl ⊢
  have hl : lv_has ls 7 [(0, .ref ox), (1, .int 7), (2, .int p1), (3, .int p2), (4, .int p3), (5, .int (bI bb))] := hl
  refine lv_iload_n hx hb dL_does_0 rfl (lv_at hl 1 rfl) ?_
  refine lv_if_ne (tgt := 13) hx hb dL_does_1 (by decide) (fun _ => ?_) (fun z => absurd z (by decide))
  refine lv_iload_n hx hb dL_does_13 rfl (lv_at hl 1 rfl) ?_
  refine lv_iconst (v := 1) hx hb dL_does_14 (by decide) ?_
  refine lv_icmp_ne (tgt := 26) hx hb dL_does_15 (by decide) (fun _ => ?_) (fun z => absurd z (by decide))
  refine lv_iload_n hx hb dL_does_26 rfl (lv_at hl 1 rfl) ?_
  refine lv_iconst (v := 2) hx hb dL_does_27 (by decide) ?_
  refine lv_icmp_ne (tgt := 40) hx hb dL_does_28 (by decide) (fun _ => ?_) (fun z => absurd z (by decide))
  refine lv_iload_n hx hb dL_does_40 rfl (lv_at hl 1 rfl) ?_
  refine lv_iconst (v := 3) hx hb dL_does_41 (by decide) ?_
  refine lv_icmp_ne (tgt := 54) hx hb dL_does_42 (by decide) (fun _ => ?_) (fun z => absurd z (by decide))
  refine lv_iload_n hx hb dL_does_54 rfl (lv_at hl 1 rfl) ?_
  refine lv_iconst (v := 4) hx hb dL_does_55 (by decide) ?_
  refine lv_icmp_ne (tgt := 68) hx hb dL_does_56 (by decide) (fun _ => ?_) (fun z => absurd z (by decide))
  refine lv_iload_n hx hb dL_does_68 rfl (lv_at hl 1 rfl) ?_
  refine lv_iconst (v := 5) hx hb dL_does_69 (by decide) ?_
  refine lv_icmp_ne (tgt := 82) hx hb dL_does_70 (by decide) (fun _ => ?_) (fun z => absurd z (by decide))
  refine lv_iload_n hx hb dL_does_82 rfl (lv_at hl 1 rfl) ?_
  refine lv_bipush (v := 6) hx hb dL_does_83 (by decide) ?_
  refine lv_icmp_ne (tgt := 99) hx hb dL_does_85 (by decide) (fun _ => ?_) (fun z => absurd z (by decide))
  refine lv_iload_n hx hb dL_does_99 rfl (lv_at hl 1 rfl) ?_
  refine lv_bipush (v := 7) hx hb dL_does_100 (by decide) ?_
  refine lv_icmp_ne (tgt := 113) hx hb dL_does_102 (by decide) (fun z => absurd z (by decide)) (fun _ => ?_)
  refine lv_aload_n hx hb dL_does_105 rfl (lv_at hl 0 rfl) ?_
  refine lv_iload_n hx hb dL_does_106 rfl (lv_at hl 2 rfl) ?_
  refine wq_callX (vx_runV (As := [.int p1]) (rest := []) ⟨hx, hb, hml, hown, hts⟩ (m_X1_finish l hnt hq (p1)) (cwV 1 hts gL_does_X1_finish rfl rfl rfl (by decide +kernel) ⟨Nat.le_of_ble_eq_true rfl, Nat.le_of_ble_eq_true rfl⟩) (wt_pV hK hE hw.1 hA hq.1 rfl) rfl rfl hl.1 rfl (lv_room (Nat.le_of_ble_eq_true rfl)) dL_does_107 ⟨Nat.le_of_ble_eq_true rfl, Nat.le_of_ble_eq_true rfl⟩) hw hA (fun E ce q H locs hpE hw hcell hcv hcl => ?_) (fun rw_1 Lw_1 fw_1 H locs hpost hw => ?_)
  · rcases hpE with ⟨rfl, hC⟩ | ⟨rfl, hC⟩
    · refine vx_catch (own := RL) hown [] ⟨0, 151, 152, 55⟩ [⟨0, 151, 157, 57⟩, ⟨0, 151, 162, 59⟩] (htab.trans rfl) (fun z hz => absurd hz List.not_mem_nil) (by decide) (by decide) (hts (.classLink RL 55 "java/lang/IndexOutOfBoundsException") (by decide +kernel)) (va_Nw.use rfl (hE.2.2.1 _ (by decide))) hcell hcv hcl ?_
      refine lv_astore (lv' := [(6, .ref q), (0, .ref ox), (1, .int 7), (2, .int p1), (3, .int p2), (4, .int p3), (5, .int (bI bb))]) hx hb dL_does_152 hl (by decide) rfl (fun ls hl => ?_)
      refine lv_bipush (v := (-30)) hx hb dL_does_154 (by decide) ?_
      exact wq_iretX hx hb hr hlocks dL_does_156 hw (Nat.le_of_ble_eq_true rfl) (Nat.le_of_ble_eq_true rfl) (Or.inr ⟨by rw [hC]; decide, congrArg Value.int (by rw [hC]; decide), rfl, rfl⟩)
    · refine vx_catch (own := RL) hown [⟨0, 151, 152, 55⟩, ⟨0, 151, 157, 57⟩] ⟨0, 151, 162, 59⟩ [] (htab.trans rfl) (fun z hz => by
          rcases List.mem_cons.mp hz with h | h
          · rw [h]; exact Or.inr ⟨by decide, _, hts (.classLink RL 55 "java/lang/IndexOutOfBoundsException") (by decide +kernel), hN.1⟩
          · rw [List.mem_singleton.mp h]; exact Or.inr ⟨by decide, _, hts (.classLink RL 57 "java/lang/IllegalArgumentException") (by decide +kernel), hN.2.2⟩) (by decide) (by decide) (hts (.classLink RL 59 "java/lang/IllegalStateException") (by decide +kernel)) (va_Nw.use rfl (hE.2.2.1 _ (by decide))) hcell hcv hcl ?_
      refine lv_astore (lv' := [(6, .ref q), (0, .ref ox), (1, .int 7), (2, .int p1), (3, .int p2), (4, .int p3), (5, .int (bI bb))]) hx hb dL_does_162 hl (by decide) rfl (fun ls hl => ?_)
      refine lv_bipush (v := (-10)) hx hb dL_does_164 (by decide) ?_
      exact wq_iretX hx hb hr hlocks dL_does_166 hw (Nat.le_of_ble_eq_true rfl) (Nat.le_of_ble_eq_true rfl) (Or.inr ⟨by rw [hC]; decide, congrArg Value.int (by rw [hC]; decide), rfl, rfl⟩)
  obtain ⟨hC, er, ra2, ar2, hS⟩ := hpost
  subst er
  refine lv_goto (tgt := 151) hx hb dL_does_110 (by decide) ?_
  exact wq_iretX hx hb hr hlocks dL_does_151 hw (Nat.le_of_ble_eq_true rfl) (Nat.le_of_ble_eq_true rfl) (Or.inl ⟨hC, rfl, ra2, ar2, hS⟩)
set_option maxHeartbeats 4000000 in
set_option maxRecDepth 100000 in
theorem m_L_does_dispute (l : Launch) (hnt : l.stackTraces = false) {G : wy_G} {L : List Nat} {f fa : Nat → va_E} {sz : Nat} {ox lo : Nat} {ra ar : Nat → Nat} {n : Nat} {km mn : Int32} {wk : Nat} {po : Nat → Int32} {rr : Nat → wr_V} (hq : wx_S G L f ox lo ra ar n km mn wk po rr) (p1 p2 p3 : Int32) (bb : Bool) : vx_Met l yL_does wsL_does ({ frames := 8, cells := 3, slots := 18, locals := 126 } : Room) (va_Pc [.ref ox, .int 8, .int p1, .int p2, .int p3, .int (bI bb)] (wq_P G L f [] fa sz)) (wq_Q G L [] sz (wd_p G ox lo n km mn wk po (va_up rr (ix p1) (vDis (rr (ix p1)) (ix p2))) L f ((rch (rr (ix p1)) (ix p2))) (rdC n p1 p2 (dsB (rr (ix p1)) (ix p2))) (de2 (rdC n p1 p2 (dsB (rr (ix p1)) (ix p2)))))) (fun _ _ _ => False) 3 18 (wy_A (L ++ []) sz) := by
  refine vx_ofWH (cc := cL_does) (maxL := 7) (ret := (some .int)) (hh := [(0, 151, 152, 55), (0, 151, 157, 57), (0, 151, 162, 59)]) (by decide) rfl ?_
  intro p e s m args below meth c s₁ B hml hv
  obtain ⟨rfl, hP⟩ := hv
  obtain ⟨hw, hK, hA⟩ := wq_start hP
  obtain ⟨hv, -, -, hE, hZ, hN⟩ := hP
  have hsz := hv.1
  subst hsz
  have hx := B.exec
  have hb := B.bytes
  have hr := B.returns
  have hts := atoms_spec (ws := wsL_does) B.pre
  have hown : s.vm.findClass RL = some m.cls := findClass_of_methodNamed B.named
  have hlocks := B.notSynchronized
  have htab := vx_table (x := yL_does) B (hts (.codeWith yL_does cL_does 7 (some .int) [(0, 151, 152, 55), (0, 151, 157, 57), (0, 151, 162, 59)]) List.mem_cons_self)
  have hl := lv_entry ([.ref ox, .int 8, .int p1, .int p2, .int p3, .int (bI bb)]) (n := 7) (Nat.le_of_ble_eq_true rfl)
  rw [lg_entry_eq]
  generalize (lg_sl ([.ref ox, .int 8, .int p1, .int p2, .int p3, .int (bI bb)]) ++ List.replicate (7 - (lg_sl ([.ref ox, .int 8, .int p1, .int p2, .int p3, .int (bI bb)])).length) Slot.unset).toArray = ls at hl ⊢
  have hl : lv_has ls 7 [(0, .ref ox), (1, .int 8), (2, .int p1), (3, .int p2), (4, .int p3), (5, .int (bI bb))] := hl
  refine lv_iload_n hx hb dL_does_0 rfl (lv_at hl 1 rfl) ?_
  refine lv_if_ne (tgt := 13) hx hb dL_does_1 (by decide) (fun _ => ?_) (fun z => absurd z (by decide))
  refine lv_iload_n hx hb dL_does_13 rfl (lv_at hl 1 rfl) ?_
  refine lv_iconst (v := 1) hx hb dL_does_14 (by decide) ?_
  refine lv_icmp_ne (tgt := 26) hx hb dL_does_15 (by decide) (fun _ => ?_) (fun z => absurd z (by decide))
  refine lv_iload_n hx hb dL_does_26 rfl (lv_at hl 1 rfl) ?_
  refine lv_iconst (v := 2) hx hb dL_does_27 (by decide) ?_
  refine lv_icmp_ne (tgt := 40) hx hb dL_does_28 (by decide) (fun _ => ?_) (fun z => absurd z (by decide))
  refine lv_iload_n hx hb dL_does_40 rfl (lv_at hl 1 rfl) ?_
  refine lv_iconst (v := 3) hx hb dL_does_41 (by decide) ?_
  refine lv_icmp_ne (tgt := 54) hx hb dL_does_42 (by decide) (fun _ => ?_) (fun z => absurd z (by decide))
  refine lv_iload_n hx hb dL_does_54 rfl (lv_at hl 1 rfl) ?_
  refine lv_iconst (v := 4) hx hb dL_does_55 (by decide) ?_
  refine lv_icmp_ne (tgt := 68) hx hb dL_does_56 (by decide) (fun _ => ?_) (fun z => absurd z (by decide))
  refine lv_iload_n hx hb dL_does_68 rfl (lv_at hl 1 rfl) ?_
  refine lv_iconst (v := 5) hx hb dL_does_69 (by decide) ?_
  refine lv_icmp_ne (tgt := 82) hx hb dL_does_70 (by decide) (fun _ => ?_) (fun z => absurd z (by decide))
  refine lv_iload_n hx hb dL_does_82 rfl (lv_at hl 1 rfl) ?_
  refine lv_bipush (v := 6) hx hb dL_does_83 (by decide) ?_
  refine lv_icmp_ne (tgt := 99) hx hb dL_does_85 (by decide) (fun _ => ?_) (fun z => absurd z (by decide))
  refine lv_iload_n hx hb dL_does_99 rfl (lv_at hl 1 rfl) ?_
  refine lv_bipush (v := 7) hx hb dL_does_100 (by decide) ?_
  refine lv_icmp_ne (tgt := 113) hx hb dL_does_102 (by decide) (fun _ => ?_) (fun z => absurd z (by decide))
  refine lv_iload_n hx hb dL_does_113 rfl (lv_at hl 1 rfl) ?_
  refine lv_bipush (v := 8) hx hb dL_does_114 (by decide) ?_
  refine lv_icmp_ne (tgt := 128) hx hb dL_does_116 (by decide) (fun z => absurd z (by decide)) (fun _ => ?_)
  refine lv_aload_n hx hb dL_does_119 rfl (lv_at hl 0 rfl) ?_
  refine lv_iload_n hx hb dL_does_120 rfl (lv_at hl 2 rfl) ?_
  refine lv_iload_n hx hb dL_does_121 rfl (lv_at hl 3 rfl) ?_
  refine wq_callX (vx_runV (As := [.int p1, .int p2]) (rest := []) ⟨hx, hb, hml, hown, hts⟩ (m_X1_dispute l hnt hq (p1) (p2)) (cwV 2 hts gL_does_X1_dispute rfl rfl rfl (by decide +kernel) ⟨Nat.le_of_ble_eq_true rfl, Nat.le_of_ble_eq_true rfl⟩) (wt_pV hK hE hw.1 hA hq.1 rfl) rfl rfl hl.1 rfl (lv_room (Nat.le_of_ble_eq_true rfl)) dL_does_122 ⟨Nat.le_of_ble_eq_true rfl, Nat.le_of_ble_eq_true rfl⟩) hw hA (fun E ce q H locs hpE hw hcell hcv hcl => ?_) (fun rw_1 Lw_1 fw_1 H locs hpost hw => ?_)
  · rcases hpE with ⟨rfl, hC⟩ | ⟨rfl, hC⟩
    · refine vx_catch (own := RL) hown [] ⟨0, 151, 152, 55⟩ [⟨0, 151, 157, 57⟩, ⟨0, 151, 162, 59⟩] (htab.trans rfl) (fun z hz => absurd hz List.not_mem_nil) (by decide) (by decide) (hts (.classLink RL 55 "java/lang/IndexOutOfBoundsException") (by decide +kernel)) (va_Nw.use rfl (hE.2.2.1 _ (by decide))) hcell hcv hcl ?_
      refine lv_astore (lv' := [(6, .ref q), (0, .ref ox), (1, .int 8), (2, .int p1), (3, .int p2), (4, .int p3), (5, .int (bI bb))]) hx hb dL_does_152 hl (by decide) rfl (fun ls hl => ?_)
      refine lv_bipush (v := (-30)) hx hb dL_does_154 (by decide) ?_
      exact wq_iretX hx hb hr hlocks dL_does_156 hw (Nat.le_of_ble_eq_true rfl) (Nat.le_of_ble_eq_true rfl) (Or.inr ⟨by rw [hC]; decide, congrArg Value.int (by rw [hC]; decide), rfl, rfl⟩)
    · refine vx_catch (own := RL) hown [⟨0, 151, 152, 55⟩, ⟨0, 151, 157, 57⟩] ⟨0, 151, 162, 59⟩ [] (htab.trans rfl) (fun z hz => by
          rcases List.mem_cons.mp hz with h | h
          · rw [h]; exact Or.inr ⟨by decide, _, hts (.classLink RL 55 "java/lang/IndexOutOfBoundsException") (by decide +kernel), hN.1⟩
          · rw [List.mem_singleton.mp h]; exact Or.inr ⟨by decide, _, hts (.classLink RL 57 "java/lang/IllegalArgumentException") (by decide +kernel), hN.2.2⟩) (by decide) (by decide) (hts (.classLink RL 59 "java/lang/IllegalStateException") (by decide +kernel)) (va_Nw.use rfl (hE.2.2.1 _ (by decide))) hcell hcv hcl ?_
      refine lv_astore (lv' := [(6, .ref q), (0, .ref ox), (1, .int 8), (2, .int p1), (3, .int p2), (4, .int p3), (5, .int (bI bb))]) hx hb dL_does_162 hl (by decide) rfl (fun ls hl => ?_)
      refine lv_bipush (v := (-10)) hx hb dL_does_164 (by decide) ?_
      exact wq_iretX hx hb hr hlocks dL_does_166 hw (Nat.le_of_ble_eq_true rfl) (Nat.le_of_ble_eq_true rfl) (Or.inr ⟨by rw [hC]; decide, congrArg Value.int (by rw [hC]; decide), rfl, rfl⟩)
  obtain ⟨hC, er, ra2, ar2, hS⟩ := hpost
  subst er
  refine lv_goto (tgt := 151) hx hb dL_does_125 (by decide) ?_
  exact wq_iretX hx hb hr hlocks dL_does_151 hw (Nat.le_of_ble_eq_true rfl) (Nat.le_of_ble_eq_true rfl) (Or.inl ⟨hC, rfl, ra2, ar2, hS⟩)
set_option maxHeartbeats 4000000 in
set_option maxRecDepth 100000 in
theorem m_L_does_settle (l : Launch) (hnt : l.stackTraces = false) {G : wy_G} {L : List Nat} {f fa : Nat → va_E} {sz : Nat} {ox lo : Nat} {ra ar : Nat → Nat} {n : Nat} {km mn : Int32} {wk : Nat} {po : Nat → Int32} {rr : Nat → wr_V} (hq : wx_S G L f ox lo ra ar n km mn wk po rr) (p1 p2 p3 : Int32) (bb : Bool) : vx_Met l yL_does wsL_does ({ frames := 8, cells := 4, slots := 24, locals := 129 } : Room) (va_Pc [.ref ox, .int 9, .int p1, .int p2, .int p3, .int (bI bb)] (wq_P G L f [] fa sz)) (wq_Q G L [] sz (wd_p G ox lo n km mn wk po (va_up rr (ix p1) (vRef (rr (ix p1)) (ix p2) p3 bb)) L f ((rfv (rr (ix p1)) (ix p2) p3)) (slC n p1 p2 p3 (!rdp (rr (ix p1)) (ix p2) || rse (rr (ix p1)) (ix p2))) (de3 (slC n p1 p2 p3 (!rdp (rr (ix p1)) (ix p2) || rse (rr (ix p1)) (ix p2)))))) (fun _ _ _ => False) 4 24 (wy_A (L ++ []) sz) := by
  refine vx_ofWH (cc := cL_does) (maxL := 7) (ret := (some .int)) (hh := [(0, 151, 152, 55), (0, 151, 157, 57), (0, 151, 162, 59)]) (by decide) rfl ?_
  intro p e s m args below meth c s₁ B hml hv
  obtain ⟨rfl, hP⟩ := hv
  obtain ⟨hw, hK, hA⟩ := wq_start hP
  obtain ⟨hv, -, -, hE, hZ, hN⟩ := hP
  have hsz := hv.1
  subst hsz
  have hx := B.exec
  have hb := B.bytes
  have hr := B.returns
  have hts := atoms_spec (ws := wsL_does) B.pre
  have hown : s.vm.findClass RL = some m.cls := findClass_of_methodNamed B.named
  have hlocks := B.notSynchronized
  have htab := vx_table (x := yL_does) B (hts (.codeWith yL_does cL_does 7 (some .int) [(0, 151, 152, 55), (0, 151, 157, 57), (0, 151, 162, 59)]) List.mem_cons_self)
  have hl := lv_entry ([.ref ox, .int 9, .int p1, .int p2, .int p3, .int (bI bb)]) (n := 7) (Nat.le_of_ble_eq_true rfl)
  rw [lg_entry_eq]
  generalize (lg_sl ([.ref ox, .int 9, .int p1, .int p2, .int p3, .int (bI bb)]) ++ List.replicate (7 - (lg_sl ([.ref ox, .int 9, .int p1, .int p2, .int p3, .int (bI bb)])).length) Slot.unset).toArray = ls at hl ⊢
  have hl : lv_has ls 7 [(0, .ref ox), (1, .int 9), (2, .int p1), (3, .int p2), (4, .int p3), (5, .int (bI bb))] := hl
  refine lv_iload_n hx hb dL_does_0 rfl (lv_at hl 1 rfl) ?_
  refine lv_if_ne (tgt := 13) hx hb dL_does_1 (by decide) (fun _ => ?_) (fun z => absurd z (by decide))
  refine lv_iload_n hx hb dL_does_13 rfl (lv_at hl 1 rfl) ?_
  refine lv_iconst (v := 1) hx hb dL_does_14 (by decide) ?_
  refine lv_icmp_ne (tgt := 26) hx hb dL_does_15 (by decide) (fun _ => ?_) (fun z => absurd z (by decide))
  refine lv_iload_n hx hb dL_does_26 rfl (lv_at hl 1 rfl) ?_
  refine lv_iconst (v := 2) hx hb dL_does_27 (by decide) ?_
  refine lv_icmp_ne (tgt := 40) hx hb dL_does_28 (by decide) (fun _ => ?_) (fun z => absurd z (by decide))
  refine lv_iload_n hx hb dL_does_40 rfl (lv_at hl 1 rfl) ?_
  refine lv_iconst (v := 3) hx hb dL_does_41 (by decide) ?_
  refine lv_icmp_ne (tgt := 54) hx hb dL_does_42 (by decide) (fun _ => ?_) (fun z => absurd z (by decide))
  refine lv_iload_n hx hb dL_does_54 rfl (lv_at hl 1 rfl) ?_
  refine lv_iconst (v := 4) hx hb dL_does_55 (by decide) ?_
  refine lv_icmp_ne (tgt := 68) hx hb dL_does_56 (by decide) (fun _ => ?_) (fun z => absurd z (by decide))
  refine lv_iload_n hx hb dL_does_68 rfl (lv_at hl 1 rfl) ?_
  refine lv_iconst (v := 5) hx hb dL_does_69 (by decide) ?_
  refine lv_icmp_ne (tgt := 82) hx hb dL_does_70 (by decide) (fun _ => ?_) (fun z => absurd z (by decide))
  refine lv_iload_n hx hb dL_does_82 rfl (lv_at hl 1 rfl) ?_
  refine lv_bipush (v := 6) hx hb dL_does_83 (by decide) ?_
  refine lv_icmp_ne (tgt := 99) hx hb dL_does_85 (by decide) (fun _ => ?_) (fun z => absurd z (by decide))
  refine lv_iload_n hx hb dL_does_99 rfl (lv_at hl 1 rfl) ?_
  refine lv_bipush (v := 7) hx hb dL_does_100 (by decide) ?_
  refine lv_icmp_ne (tgt := 113) hx hb dL_does_102 (by decide) (fun _ => ?_) (fun z => absurd z (by decide))
  refine lv_iload_n hx hb dL_does_113 rfl (lv_at hl 1 rfl) ?_
  refine lv_bipush (v := 8) hx hb dL_does_114 (by decide) ?_
  refine lv_icmp_ne (tgt := 128) hx hb dL_does_116 (by decide) (fun _ => ?_) (fun z => absurd z (by decide))
  refine lv_iload_n hx hb dL_does_128 rfl (lv_at hl 1 rfl) ?_
  refine lv_bipush (v := 9) hx hb dL_does_129 (by decide) ?_
  refine lv_icmp_ne (tgt := 147) hx hb dL_does_131 (by decide) (fun z => absurd z (by decide)) (fun _ => ?_)
  refine lv_aload_n hx hb dL_does_134 rfl (lv_at hl 0 rfl) ?_
  refine lv_iload_n hx hb dL_does_135 rfl (lv_at hl 2 rfl) ?_
  refine lv_iload_n hx hb dL_does_136 rfl (lv_at hl 3 rfl) ?_
  refine lv_iload hx hb dL_does_137 (lv_at hl 4 rfl) ?_
  refine lv_iload hx hb dL_does_139 (lv_at hl 5 rfl) ?_
  refine wq_callX (vx_runV (As := [.int p1, .int p2, .int p3, .int (bI bb)]) (rest := []) ⟨hx, hb, hml, hown, hts⟩ (m_X1_settle l hnt hq (p1) (p2) (p3) (bb)) (cwV 4 hts gL_does_X1_settle rfl rfl rfl (by decide +kernel) ⟨Nat.le_of_ble_eq_true rfl, Nat.le_of_ble_eq_true rfl⟩) (wt_pV hK hE hw.1 hA hq.1 rfl) rfl rfl hl.1 rfl (lv_room (Nat.le_of_ble_eq_true rfl)) dL_does_141 ⟨Nat.le_of_ble_eq_true rfl, Nat.le_of_ble_eq_true rfl⟩) hw hA (fun E ce q H locs hpE hw hcell hcv hcl => ?_) (fun rw_1 Lw_1 fw_1 H locs hpost hw => ?_)
  · rcases hpE with ⟨rfl, hC⟩ | ⟨rfl, hC⟩ | ⟨rfl, hC⟩
    · refine vx_catch (own := RL) hown [] ⟨0, 151, 152, 55⟩ [⟨0, 151, 157, 57⟩, ⟨0, 151, 162, 59⟩] (htab.trans rfl) (fun z hz => absurd hz List.not_mem_nil) (by decide) (by decide) (hts (.classLink RL 55 "java/lang/IndexOutOfBoundsException") (by decide +kernel)) (va_Nw.use rfl (hE.2.2.1 _ (by decide))) hcell hcv hcl ?_
      refine lv_astore (lv' := [(6, .ref q), (0, .ref ox), (1, .int 9), (2, .int p1), (3, .int p2), (4, .int p3), (5, .int (bI bb))]) hx hb dL_does_152 hl (by decide) rfl (fun ls hl => ?_)
      refine lv_bipush (v := (-30)) hx hb dL_does_154 (by decide) ?_
      exact wq_iretX hx hb hr hlocks dL_does_156 hw (Nat.le_of_ble_eq_true rfl) (Nat.le_of_ble_eq_true rfl) (Or.inr ⟨by rw [hC]; decide, congrArg Value.int (by rw [hC]; decide), rfl, rfl⟩)
    · refine vx_catch (own := RL) hown [⟨0, 151, 152, 55⟩] ⟨0, 151, 157, 57⟩ [⟨0, 151, 162, 59⟩] (htab.trans rfl) (fun z hz => by rw [List.mem_singleton.mp hz]; exact Or.inr ⟨by decide, _, hts (.classLink RL 55 "java/lang/IndexOutOfBoundsException") (by decide +kernel), hN.2.1⟩) (by decide) (by decide) (hts (.classLink RL 57 "java/lang/IllegalArgumentException") (by decide +kernel)) (va_Nw.use rfl (hE.2.2.1 _ (by decide))) hcell hcv hcl ?_
      refine lv_astore (lv' := [(6, .ref q), (0, .ref ox), (1, .int 9), (2, .int p1), (3, .int p2), (4, .int p3), (5, .int (bI bb))]) hx hb dL_does_157 hl (by decide) rfl (fun ls hl => ?_)
      refine lv_bipush (v := (-20)) hx hb dL_does_159 (by decide) ?_
      exact wq_iretX hx hb hr hlocks dL_does_161 hw (Nat.le_of_ble_eq_true rfl) (Nat.le_of_ble_eq_true rfl) (Or.inr ⟨by rw [hC]; decide, congrArg Value.int (by rw [hC]; decide), rfl, rfl⟩)
    · refine vx_catch (own := RL) hown [⟨0, 151, 152, 55⟩, ⟨0, 151, 157, 57⟩] ⟨0, 151, 162, 59⟩ [] (htab.trans rfl) (fun z hz => by
          rcases List.mem_cons.mp hz with h | h
          · rw [h]; exact Or.inr ⟨by decide, _, hts (.classLink RL 55 "java/lang/IndexOutOfBoundsException") (by decide +kernel), hN.1⟩
          · rw [List.mem_singleton.mp h]; exact Or.inr ⟨by decide, _, hts (.classLink RL 57 "java/lang/IllegalArgumentException") (by decide +kernel), hN.2.2⟩) (by decide) (by decide) (hts (.classLink RL 59 "java/lang/IllegalStateException") (by decide +kernel)) (va_Nw.use rfl (hE.2.2.1 _ (by decide))) hcell hcv hcl ?_
      refine lv_astore (lv' := [(6, .ref q), (0, .ref ox), (1, .int 9), (2, .int p1), (3, .int p2), (4, .int p3), (5, .int (bI bb))]) hx hb dL_does_162 hl (by decide) rfl (fun ls hl => ?_)
      refine lv_bipush (v := (-10)) hx hb dL_does_164 (by decide) ?_
      exact wq_iretX hx hb hr hlocks dL_does_166 hw (Nat.le_of_ble_eq_true rfl) (Nat.le_of_ble_eq_true rfl) (Or.inr ⟨by rw [hC]; decide, congrArg Value.int (by rw [hC]; decide), rfl, rfl⟩)
  obtain ⟨hC, er, ra2, ar2, hS⟩ := hpost
  subst er
  refine lv_goto (tgt := 151) hx hb dL_does_144 (by decide) ?_
  exact wq_iretX hx hb hr hlocks dL_does_151 hw (Nat.le_of_ble_eq_true rfl) (Nat.le_of_ble_eq_true rfl) (Or.inl ⟨hC, rfl, ra2, ar2, hS⟩)
set_option maxHeartbeats 4000000 in
set_option maxRecDepth 100000 in
theorem m_L_does_closeWeek (l : Launch) (hnt : l.stackTraces = false) {G : wy_G} {L : List Nat} {f fa : Nat → va_E} {sz : Nat} {ox lo : Nat} {ra ar : Nat → Nat} {n : Nat} {km mn : Int32} {wk : Nat} {po : Nat → Int32} {rr : Nat → wr_V} (hq : wx_S G L f ox lo ra ar n km mn wk po rr) (p1 p2 p3 : Int32) (bb : Bool) : vx_Met l yL_does wsL_does ({ frames := 9, cells := 1, slots := 6, locals := 203 } : Room) (va_Pc [.ref ox, .int 10, .int p1, .int p2, .int p3, .int (bI bb)] (wq_P G L f [] fa sz)) (wq_Q G L [] sz (wd_p G ox lo n km mn (wk + 1) (poW rr n po wk 5) (rr) L f ((totW rr n po wk 5)) (cwC rr n wk) (deS (cwC rr n wk)))) (fun _ _ _ => False) 1 6 (wy_A (L ++ []) sz) := by
  refine vx_ofWH (cc := cL_does) (maxL := 7) (ret := (some .int)) (hh := [(0, 151, 152, 55), (0, 151, 157, 57), (0, 151, 162, 59)]) (by decide) rfl ?_
  intro p e s m args below meth c s₁ B hml hv
  obtain ⟨rfl, hP⟩ := hv
  obtain ⟨hw, hK, hA⟩ := wq_start hP
  obtain ⟨hv, -, -, hE, hZ, hN⟩ := hP
  have hsz := hv.1
  subst hsz
  have hx := B.exec
  have hb := B.bytes
  have hr := B.returns
  have hts := atoms_spec (ws := wsL_does) B.pre
  have hown : s.vm.findClass RL = some m.cls := findClass_of_methodNamed B.named
  have hlocks := B.notSynchronized
  have htab := vx_table (x := yL_does) B (hts (.codeWith yL_does cL_does 7 (some .int) [(0, 151, 152, 55), (0, 151, 157, 57), (0, 151, 162, 59)]) List.mem_cons_self)
  have hl := lv_entry ([.ref ox, .int 10, .int p1, .int p2, .int p3, .int (bI bb)]) (n := 7) (Nat.le_of_ble_eq_true rfl)
  rw [lg_entry_eq]
  generalize (lg_sl ([.ref ox, .int 10, .int p1, .int p2, .int p3, .int (bI bb)]) ++ List.replicate (7 - (lg_sl ([.ref ox, .int 10, .int p1, .int p2, .int p3, .int (bI bb)])).length) Slot.unset).toArray = ls at hl ⊢
  have hl : lv_has ls 7 [(0, .ref ox), (1, .int 10), (2, .int p1), (3, .int p2), (4, .int p3), (5, .int (bI bb))] := hl
  refine lv_iload_n hx hb dL_does_0 rfl (lv_at hl 1 rfl) ?_
  refine lv_if_ne (tgt := 13) hx hb dL_does_1 (by decide) (fun _ => ?_) (fun z => absurd z (by decide))
  refine lv_iload_n hx hb dL_does_13 rfl (lv_at hl 1 rfl) ?_
  refine lv_iconst (v := 1) hx hb dL_does_14 (by decide) ?_
  refine lv_icmp_ne (tgt := 26) hx hb dL_does_15 (by decide) (fun _ => ?_) (fun z => absurd z (by decide))
  refine lv_iload_n hx hb dL_does_26 rfl (lv_at hl 1 rfl) ?_
  refine lv_iconst (v := 2) hx hb dL_does_27 (by decide) ?_
  refine lv_icmp_ne (tgt := 40) hx hb dL_does_28 (by decide) (fun _ => ?_) (fun z => absurd z (by decide))
  refine lv_iload_n hx hb dL_does_40 rfl (lv_at hl 1 rfl) ?_
  refine lv_iconst (v := 3) hx hb dL_does_41 (by decide) ?_
  refine lv_icmp_ne (tgt := 54) hx hb dL_does_42 (by decide) (fun _ => ?_) (fun z => absurd z (by decide))
  refine lv_iload_n hx hb dL_does_54 rfl (lv_at hl 1 rfl) ?_
  refine lv_iconst (v := 4) hx hb dL_does_55 (by decide) ?_
  refine lv_icmp_ne (tgt := 68) hx hb dL_does_56 (by decide) (fun _ => ?_) (fun z => absurd z (by decide))
  refine lv_iload_n hx hb dL_does_68 rfl (lv_at hl 1 rfl) ?_
  refine lv_iconst (v := 5) hx hb dL_does_69 (by decide) ?_
  refine lv_icmp_ne (tgt := 82) hx hb dL_does_70 (by decide) (fun _ => ?_) (fun z => absurd z (by decide))
  refine lv_iload_n hx hb dL_does_82 rfl (lv_at hl 1 rfl) ?_
  refine lv_bipush (v := 6) hx hb dL_does_83 (by decide) ?_
  refine lv_icmp_ne (tgt := 99) hx hb dL_does_85 (by decide) (fun _ => ?_) (fun z => absurd z (by decide))
  refine lv_iload_n hx hb dL_does_99 rfl (lv_at hl 1 rfl) ?_
  refine lv_bipush (v := 7) hx hb dL_does_100 (by decide) ?_
  refine lv_icmp_ne (tgt := 113) hx hb dL_does_102 (by decide) (fun _ => ?_) (fun z => absurd z (by decide))
  refine lv_iload_n hx hb dL_does_113 rfl (lv_at hl 1 rfl) ?_
  refine lv_bipush (v := 8) hx hb dL_does_114 (by decide) ?_
  refine lv_icmp_ne (tgt := 128) hx hb dL_does_116 (by decide) (fun _ => ?_) (fun z => absurd z (by decide))
  refine lv_iload_n hx hb dL_does_128 rfl (lv_at hl 1 rfl) ?_
  refine lv_bipush (v := 9) hx hb dL_does_129 (by decide) ?_
  refine lv_icmp_ne (tgt := 147) hx hb dL_does_131 (by decide) (fun _ => ?_) (fun z => absurd z (by decide))
  refine lv_aload_n hx hb dL_does_147 rfl (lv_at hl 0 rfl) ?_
  refine wq_callX (vx_runV (As := []) (rest := []) ⟨hx, hb, hml, hown, hts⟩ (m_X1_closeWeek l hnt hq) (cwV 0 hts gL_does_X1_closeWeek rfl rfl rfl (by decide +kernel) ⟨Nat.le_of_ble_eq_true rfl, Nat.le_of_ble_eq_true rfl⟩) (wt_pV hK hE hw.1 hA hq.1 rfl) rfl rfl hl.1 rfl (lv_room (Nat.le_of_ble_eq_true rfl)) dL_does_148 ⟨Nat.le_of_ble_eq_true rfl, Nat.le_of_ble_eq_true rfl⟩) hw hA (fun E ce q H locs hpE hw hcell hcv hcl => ?_) (fun rw_1 Lw_1 fw_1 H locs hpost hw => ?_)
  · obtain ⟨rfl, hC⟩ := hpE
    refine vx_catch (own := RL) hown [⟨0, 151, 152, 55⟩, ⟨0, 151, 157, 57⟩] ⟨0, 151, 162, 59⟩ [] (htab.trans rfl) (fun z hz => by
        rcases List.mem_cons.mp hz with h | h
        · rw [h]; exact Or.inr ⟨by decide, _, hts (.classLink RL 55 "java/lang/IndexOutOfBoundsException") (by decide +kernel), hN.1⟩
        · rw [List.mem_singleton.mp h]; exact Or.inr ⟨by decide, _, hts (.classLink RL 57 "java/lang/IllegalArgumentException") (by decide +kernel), hN.2.2⟩) (by decide) (by decide) (hts (.classLink RL 59 "java/lang/IllegalStateException") (by decide +kernel)) (va_Nw.use rfl (hE.2.2.1 _ (by decide))) hcell hcv hcl ?_
    refine lv_astore (lv' := [(6, .ref q), (0, .ref ox), (1, .int 10), (2, .int p1), (3, .int p2), (4, .int p3), (5, .int (bI bb))]) hx hb dL_does_162 hl (by decide) rfl (fun ls hl => ?_)
    refine lv_bipush (v := (-10)) hx hb dL_does_164 (by decide) ?_
    exact wq_iretX hx hb hr hlocks dL_does_166 hw (Nat.le_of_ble_eq_true rfl) (Nat.le_of_ble_eq_true rfl) (Or.inr ⟨by rw [hC]; decide, congrArg Value.int (by rw [hC]; decide), rfl, rfl⟩)
  obtain ⟨hC, er, ra2, ar2, hS⟩ := hpost
  subst er
  exact wq_iretX hx hb hr hlocks dL_does_151 hw (Nat.le_of_ble_eq_true rfl) (Nat.le_of_ble_eq_true rfl) (Or.inl ⟨hC, rfl, ra2, ar2, hS⟩)
