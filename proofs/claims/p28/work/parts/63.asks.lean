set_option maxHeartbeats 4000000 in
set_option maxRecDepth 100000 in
theorem m_L_asks_aboard (l : Launch) (hnt : l.stackTraces = false) {G : wy_G} {L : List Nat} {f fa : Nat → va_E} {sz : Nat} {ox lo : Nat} {ra ar : Nat → Nat} {n : Nat} {km mn : Int32} {wk : Nat} {po : Nat → Int32} {rr : Nat → wr_V} (hq : wx_S G L f ox lo ra ar n km mn wk po rr) (p1 p2 : Int32) (hne : ¬ (okC n p1) = 0) : vx_Met l yL_asks wsL_asks ({ frames := 8, cells := 1, slots := 6, locals := 124 } : Room) (va_Pc [.ref ox, .int 0, .int p1, .int p2] (wq_P G L f [] fa sz)) (wq_Q G L [] sz (wd_a L f (dea (okC n p1)))) (fun _ _ _ => False) 1 6 (wy_A (L ++ []) sz) := by
  refine vx_ofWH (cc := cL_asks) (maxL := 5) (ret := (some .int)) (hh := [(0, 137, 138, 55), (0, 137, 143, 57)]) (by decide) rfl ?_
  intro p e s m args below meth c s₁ B hml hv
  obtain ⟨rfl, hP⟩ := hv
  obtain ⟨hw, hK, hA⟩ := wq_start hP
  obtain ⟨hv, -, -, hE, hZ, hN⟩ := hP
  have hsz := hv.1
  subst hsz
  have hx := B.exec
  have hb := B.bytes
  have hr := B.returns
  have hts := atoms_spec (ws := wsL_asks) B.pre
  have hown : s.vm.findClass RL = some m.cls := findClass_of_methodNamed B.named
  have hlocks := B.notSynchronized
  have htab := vx_table (x := yL_asks) B (hts (.codeWith yL_asks cL_asks 5 (some .int) [(0, 137, 138, 55), (0, 137, 143, 57)]) List.mem_cons_self)
  have hl := lv_entry ([.ref ox, .int 0, .int p1, .int p2]) (n := 5) (Nat.le_of_ble_eq_true rfl)
  rw [lg_entry_eq]
  generalize (lg_sl ([.ref ox, .int 0, .int p1, .int p2]) ++ List.replicate (5 - (lg_sl ([.ref ox, .int 0, .int p1, .int p2])).length) Slot.unset).toArray = ls at hl ⊢
  have hl : lv_has ls 5 [(0, .ref ox), (1, .int 0), (2, .int p1), (3, .int p2)] := hl
  refine lv_iload_n hx hb dL_asks_0 rfl (lv_at hl 1 rfl) ?_
  refine lv_if_ne (tgt := 12) hx hb dL_asks_1 (by decide) (fun z => absurd z (by decide)) (fun _ => ?_)
  refine lv_aload_n hx hb dL_asks_4 rfl (lv_at hl 0 rfl) ?_
  refine lv_iload_n hx hb dL_asks_5 rfl (lv_at hl 2 rfl) ?_
  refine wq_callX (vx_runV (As := [.int p1]) (rest := []) ⟨hx, hb, hml, hown, hts⟩ (m_X1_aboard l hnt hq (p1)) (cwV 1 hts gL_asks_X1_aboard rfl rfl rfl (by decide +kernel) ⟨Nat.le_of_ble_eq_true rfl, Nat.le_of_ble_eq_true rfl⟩) (wt_pV hK hE hw.1 hA hq.1 rfl) rfl rfl hl.1 rfl (lv_room (Nat.le_of_ble_eq_true rfl)) dL_asks_6 ⟨Nat.le_of_ble_eq_true rfl, Nat.le_of_ble_eq_true rfl⟩) hw hA (fun E ce q H locs hpE hw hcell hcv hcl => ?_) (fun rw_1 Lw_1 fw_1 H locs hpost hw => ?_)
  · obtain ⟨rfl, hC⟩ := hpE
    refine vx_catch (own := RL) hown [] ⟨0, 137, 138, 55⟩ [⟨0, 137, 143, 57⟩] (htab.trans rfl) (fun z hz => absurd hz List.not_mem_nil) (by decide) (by decide) (hts (.classLink RL 55 "java/lang/IndexOutOfBoundsException") (by decide +kernel)) (va_Nw.use rfl (hE.2.2.1 _ (by decide))) hcell hcv hcl ?_
    refine lv_astore (lv' := [(4, .ref q), (0, .ref ox), (1, .int 0), (2, .int p1), (3, .int p2)]) hx hb dL_asks_138 hl (by decide) rfl (fun ls hl => ?_)
    refine lv_ldc (v := -1000000030) hx hb hown (hts (.constant RL 92 (-1000000030)) (by decide +kernel)) dL_asks_140 ?_
    exact wq_iretX hx hb hr hlocks dL_asks_142 hw (Nat.le_of_ble_eq_true rfl) (Nat.le_of_ble_eq_true rfl) ⟨congrArg Value.int (by rw [hC]; decide), rfl, rfl⟩
  obtain ⟨hC, er, ra2, ar2, hS⟩ := hpost
  exact absurd hC hne
set_option maxHeartbeats 4000000 in
set_option maxRecDepth 100000 in
theorem m_L_asks_charge (l : Launch) (hnt : l.stackTraces = false) {G : wy_G} {L : List Nat} {f fa : Nat → va_E} {sz : Nat} {ox lo : Nat} {ra ar : Nat → Nat} {n : Nat} {km mn : Int32} {wk : Nat} {po : Nat → Int32} {rr : Nat → wr_V} (hq : wx_S G L f ox lo ra ar n km mn wk po rr) (p1 p2 : Int32) (hne : ¬ (ok2C n p1 p2) = 0) : vx_Met l yL_asks wsL_asks ({ frames := 8, cells := 2, slots := 12, locals := 126 } : Room) (va_Pc [.ref ox, .int 1, .int p1, .int p2] (wq_P G L f [] fa sz)) (wq_Q G L [] sz (wd_a L f (dea (ok2C n p1 p2)))) (fun _ _ _ => False) 2 12 (wy_A (L ++ []) sz) := by
  refine vx_ofWH (cc := cL_asks) (maxL := 5) (ret := (some .int)) (hh := [(0, 137, 138, 55), (0, 137, 143, 57)]) (by decide) rfl ?_
  intro p e s m args below meth c s₁ B hml hv
  obtain ⟨rfl, hP⟩ := hv
  obtain ⟨hw, hK, hA⟩ := wq_start hP
  obtain ⟨hv, -, -, hE, hZ, hN⟩ := hP
  have hsz := hv.1
  subst hsz
  have hx := B.exec
  have hb := B.bytes
  have hr := B.returns
  have hts := atoms_spec (ws := wsL_asks) B.pre
  have hown : s.vm.findClass RL = some m.cls := findClass_of_methodNamed B.named
  have hlocks := B.notSynchronized
  have htab := vx_table (x := yL_asks) B (hts (.codeWith yL_asks cL_asks 5 (some .int) [(0, 137, 138, 55), (0, 137, 143, 57)]) List.mem_cons_self)
  have hl := lv_entry ([.ref ox, .int 1, .int p1, .int p2]) (n := 5) (Nat.le_of_ble_eq_true rfl)
  rw [lg_entry_eq]
  generalize (lg_sl ([.ref ox, .int 1, .int p1, .int p2]) ++ List.replicate (5 - (lg_sl ([.ref ox, .int 1, .int p1, .int p2])).length) Slot.unset).toArray = ls at hl ⊢
  have hl : lv_has ls 5 [(0, .ref ox), (1, .int 1), (2, .int p1), (3, .int p2)] := hl
  refine lv_iload_n hx hb dL_asks_0 rfl (lv_at hl 1 rfl) ?_
  refine lv_if_ne (tgt := 12) hx hb dL_asks_1 (by decide) (fun _ => ?_) (fun z => absurd z (by decide))
  refine lv_iload_n hx hb dL_asks_12 rfl (lv_at hl 1 rfl) ?_
  refine lv_iconst (v := 1) hx hb dL_asks_13 (by decide) ?_
  refine lv_icmp_ne (tgt := 26) hx hb dL_asks_14 (by decide) (fun z => absurd z (by decide)) (fun _ => ?_)
  refine lv_aload_n hx hb dL_asks_17 rfl (lv_at hl 0 rfl) ?_
  refine lv_iload_n hx hb dL_asks_18 rfl (lv_at hl 2 rfl) ?_
  refine lv_iload_n hx hb dL_asks_19 rfl (lv_at hl 3 rfl) ?_
  refine wq_callX (vx_runV (As := [.int p1, .int p2]) (rest := []) ⟨hx, hb, hml, hown, hts⟩ (m_X1_charge l hnt hq (p1) (p2)) (cwV 2 hts gL_asks_X1_charge rfl rfl rfl (by decide +kernel) ⟨Nat.le_of_ble_eq_true rfl, Nat.le_of_ble_eq_true rfl⟩) (wt_pV hK hE hw.1 hA hq.1 rfl) rfl rfl hl.1 rfl (lv_room (Nat.le_of_ble_eq_true rfl)) dL_asks_20 ⟨Nat.le_of_ble_eq_true rfl, Nat.le_of_ble_eq_true rfl⟩) hw hA (fun E ce q H locs hpE hw hcell hcv hcl => ?_) (fun rw_1 Lw_1 fw_1 H locs hpost hw => ?_)
  · obtain ⟨rfl, hC⟩ := hpE
    refine vx_catch (own := RL) hown [] ⟨0, 137, 138, 55⟩ [⟨0, 137, 143, 57⟩] (htab.trans rfl) (fun z hz => absurd hz List.not_mem_nil) (by decide) (by decide) (hts (.classLink RL 55 "java/lang/IndexOutOfBoundsException") (by decide +kernel)) (va_Nw.use rfl (hE.2.2.1 _ (by decide))) hcell hcv hcl ?_
    refine lv_astore (lv' := [(4, .ref q), (0, .ref ox), (1, .int 1), (2, .int p1), (3, .int p2)]) hx hb dL_asks_138 hl (by decide) rfl (fun ls hl => ?_)
    refine lv_ldc (v := -1000000030) hx hb hown (hts (.constant RL 92 (-1000000030)) (by decide +kernel)) dL_asks_140 ?_
    exact wq_iretX hx hb hr hlocks dL_asks_142 hw (Nat.le_of_ble_eq_true rfl) (Nat.le_of_ble_eq_true rfl) ⟨congrArg Value.int (by rw [hC]; decide), rfl, rfl⟩
  obtain ⟨hC, er, ra2, ar2, hS⟩ := hpost
  exact absurd hC hne
set_option maxHeartbeats 4000000 in
set_option maxRecDepth 100000 in
theorem m_L_asks_isVoid (l : Launch) (hnt : l.stackTraces = false) {G : wy_G} {L : List Nat} {f fa : Nat → va_E} {sz : Nat} {ox lo : Nat} {ra ar : Nat → Nat} {n : Nat} {km mn : Int32} {wk : Nat} {po : Nat → Int32} {rr : Nat → wr_V} (hq : wx_S G L f ox lo ra ar n km mn wk po rr) (p1 p2 : Int32) (hne : ¬ (okC n p1) = 0) : vx_Met l yL_asks wsL_asks ({ frames := 8, cells := 1, slots := 6, locals := 124 } : Room) (va_Pc [.ref ox, .int 2, .int p1, .int p2] (wq_P G L f [] fa sz)) (wq_Q G L [] sz (wd_a L f (dea (okC n p1)))) (fun _ _ _ => False) 1 6 (wy_A (L ++ []) sz) := by
  refine vx_ofWH (cc := cL_asks) (maxL := 5) (ret := (some .int)) (hh := [(0, 137, 138, 55), (0, 137, 143, 57)]) (by decide) rfl ?_
  intro p e s m args below meth c s₁ B hml hv
  obtain ⟨rfl, hP⟩ := hv
  obtain ⟨hw, hK, hA⟩ := wq_start hP
  obtain ⟨hv, -, -, hE, hZ, hN⟩ := hP
  have hsz := hv.1
  subst hsz
  have hx := B.exec
  have hb := B.bytes
  have hr := B.returns
  have hts := atoms_spec (ws := wsL_asks) B.pre
  have hown : s.vm.findClass RL = some m.cls := findClass_of_methodNamed B.named
  have hlocks := B.notSynchronized
  have htab := vx_table (x := yL_asks) B (hts (.codeWith yL_asks cL_asks 5 (some .int) [(0, 137, 138, 55), (0, 137, 143, 57)]) List.mem_cons_self)
  have hl := lv_entry ([.ref ox, .int 2, .int p1, .int p2]) (n := 5) (Nat.le_of_ble_eq_true rfl)
  rw [lg_entry_eq]
  generalize (lg_sl ([.ref ox, .int 2, .int p1, .int p2]) ++ List.replicate (5 - (lg_sl ([.ref ox, .int 2, .int p1, .int p2])).length) Slot.unset).toArray = ls at hl ⊢
  have hl : lv_has ls 5 [(0, .ref ox), (1, .int 2), (2, .int p1), (3, .int p2)] := hl
  refine lv_iload_n hx hb dL_asks_0 rfl (lv_at hl 1 rfl) ?_
  refine lv_if_ne (tgt := 12) hx hb dL_asks_1 (by decide) (fun _ => ?_) (fun z => absurd z (by decide))
  refine lv_iload_n hx hb dL_asks_12 rfl (lv_at hl 1 rfl) ?_
  refine lv_iconst (v := 1) hx hb dL_asks_13 (by decide) ?_
  refine lv_icmp_ne (tgt := 26) hx hb dL_asks_14 (by decide) (fun _ => ?_) (fun z => absurd z (by decide))
  refine lv_iload_n hx hb dL_asks_26 rfl (lv_at hl 1 rfl) ?_
  refine lv_iconst (v := 2) hx hb dL_asks_27 (by decide) ?_
  refine lv_icmp_ne (tgt := 47) hx hb dL_asks_28 (by decide) (fun z => absurd z (by decide)) (fun _ => ?_)
  refine lv_aload_n hx hb dL_asks_31 rfl (lv_at hl 0 rfl) ?_
  refine lv_iload_n hx hb dL_asks_32 rfl (lv_at hl 2 rfl) ?_
  refine wq_callX (vx_runV (As := [.int p1]) (rest := []) ⟨hx, hb, hml, hown, hts⟩ (m_X1_isVoid l hnt hq (p1)) (cwV 1 hts gL_asks_X1_isVoid rfl rfl rfl (by decide +kernel) ⟨Nat.le_of_ble_eq_true rfl, Nat.le_of_ble_eq_true rfl⟩) (wt_pV hK hE hw.1 hA hq.1 rfl) rfl rfl hl.1 rfl (lv_room (Nat.le_of_ble_eq_true rfl)) dL_asks_33 ⟨Nat.le_of_ble_eq_true rfl, Nat.le_of_ble_eq_true rfl⟩) hw hA (fun E ce q H locs hpE hw hcell hcv hcl => ?_) (fun rw_1 Lw_1 fw_1 H locs hpost hw => ?_)
  · obtain ⟨rfl, hC⟩ := hpE
    refine vx_catch (own := RL) hown [] ⟨0, 137, 138, 55⟩ [⟨0, 137, 143, 57⟩] (htab.trans rfl) (fun z hz => absurd hz List.not_mem_nil) (by decide) (by decide) (hts (.classLink RL 55 "java/lang/IndexOutOfBoundsException") (by decide +kernel)) (va_Nw.use rfl (hE.2.2.1 _ (by decide))) hcell hcv hcl ?_
    refine lv_astore (lv' := [(4, .ref q), (0, .ref ox), (1, .int 2), (2, .int p1), (3, .int p2)]) hx hb dL_asks_138 hl (by decide) rfl (fun ls hl => ?_)
    refine lv_ldc (v := -1000000030) hx hb hown (hts (.constant RL 92 (-1000000030)) (by decide +kernel)) dL_asks_140 ?_
    exact wq_iretX hx hb hr hlocks dL_asks_142 hw (Nat.le_of_ble_eq_true rfl) (Nat.le_of_ble_eq_true rfl) ⟨congrArg Value.int (by rw [hC]; decide), rfl, rfl⟩
  obtain ⟨hC, er, ra2, ar2, hS⟩ := hpost
  exact absurd hC hne
set_option maxHeartbeats 4000000 in
set_option maxRecDepth 100000 in
theorem m_L_asks_earnings (l : Launch) (hnt : l.stackTraces = false) {G : wy_G} {L : List Nat} {f fa : Nat → va_E} {sz : Nat} {ox lo : Nat} {ra ar : Nat → Nat} {n : Nat} {km mn : Int32} {wk : Nat} {po : Nat → Int32} {rr : Nat → wr_V} (hq : wx_S G L f ox lo ra ar n km mn wk po rr) (p1 p2 : Int32) (hne : ¬ (ewC wk p1 p2) = 0) : vx_Met l yL_asks wsL_asks ({ frames := 8, cells := 2, slots := 12, locals := 126 } : Room) (va_Pc [.ref ox, .int 3, .int p1, .int p2] (wq_P G L f [] fa sz)) (wq_Q G L [] sz (wd_a L f (dea (ewC wk p1 p2)))) (fun _ _ _ => False) 2 12 (wy_A (L ++ []) sz) := by
  refine vx_ofWH (cc := cL_asks) (maxL := 5) (ret := (some .int)) (hh := [(0, 137, 138, 55), (0, 137, 143, 57)]) (by decide) rfl ?_
  intro p e s m args below meth c s₁ B hml hv
  obtain ⟨rfl, hP⟩ := hv
  obtain ⟨hw, hK, hA⟩ := wq_start hP
  obtain ⟨hv, -, -, hE, hZ, hN⟩ := hP
  have hsz := hv.1
  subst hsz
  have hx := B.exec
  have hb := B.bytes
  have hr := B.returns
  have hts := atoms_spec (ws := wsL_asks) B.pre
  have hown : s.vm.findClass RL = some m.cls := findClass_of_methodNamed B.named
  have hlocks := B.notSynchronized
  have htab := vx_table (x := yL_asks) B (hts (.codeWith yL_asks cL_asks 5 (some .int) [(0, 137, 138, 55), (0, 137, 143, 57)]) List.mem_cons_self)
  have hl := lv_entry ([.ref ox, .int 3, .int p1, .int p2]) (n := 5) (Nat.le_of_ble_eq_true rfl)
  rw [lg_entry_eq]
  generalize (lg_sl ([.ref ox, .int 3, .int p1, .int p2]) ++ List.replicate (5 - (lg_sl ([.ref ox, .int 3, .int p1, .int p2])).length) Slot.unset).toArray = ls at hl ⊢
  have hl : lv_has ls 5 [(0, .ref ox), (1, .int 3), (2, .int p1), (3, .int p2)] := hl
  refine lv_iload_n hx hb dL_asks_0 rfl (lv_at hl 1 rfl) ?_
  refine lv_if_ne (tgt := 12) hx hb dL_asks_1 (by decide) (fun _ => ?_) (fun z => absurd z (by decide))
  refine lv_iload_n hx hb dL_asks_12 rfl (lv_at hl 1 rfl) ?_
  refine lv_iconst (v := 1) hx hb dL_asks_13 (by decide) ?_
  refine lv_icmp_ne (tgt := 26) hx hb dL_asks_14 (by decide) (fun _ => ?_) (fun z => absurd z (by decide))
  refine lv_iload_n hx hb dL_asks_26 rfl (lv_at hl 1 rfl) ?_
  refine lv_iconst (v := 2) hx hb dL_asks_27 (by decide) ?_
  refine lv_icmp_ne (tgt := 47) hx hb dL_asks_28 (by decide) (fun _ => ?_) (fun z => absurd z (by decide))
  refine lv_iload_n hx hb dL_asks_47 rfl (lv_at hl 1 rfl) ?_
  refine lv_iconst (v := 3) hx hb dL_asks_48 (by decide) ?_
  refine lv_icmp_ne (tgt := 61) hx hb dL_asks_49 (by decide) (fun z => absurd z (by decide)) (fun _ => ?_)
  refine lv_aload_n hx hb dL_asks_52 rfl (lv_at hl 0 rfl) ?_
  refine lv_iload_n hx hb dL_asks_53 rfl (lv_at hl 2 rfl) ?_
  refine lv_iload_n hx hb dL_asks_54 rfl (lv_at hl 3 rfl) ?_
  refine wq_callX (vx_runV (As := [.int p1, .int p2]) (rest := []) ⟨hx, hb, hml, hown, hts⟩ (m_X1_earnings l hnt hq (p1) (p2)) (cwV 2 hts gL_asks_X1_earnings rfl rfl rfl (by decide +kernel) ⟨Nat.le_of_ble_eq_true rfl, Nat.le_of_ble_eq_true rfl⟩) (wt_pV hK hE hw.1 hA hq.1 rfl) rfl rfl hl.1 rfl (lv_room (Nat.le_of_ble_eq_true rfl)) dL_asks_55 ⟨Nat.le_of_ble_eq_true rfl, Nat.le_of_ble_eq_true rfl⟩) hw hA (fun E ce q H locs hpE hw hcell hcv hcl => ?_) (fun rw_1 Lw_1 fw_1 H locs hpost hw => ?_)
  · rcases hpE with ⟨rfl, hC⟩ | ⟨rfl, hC⟩
    · refine vx_catch (own := RL) hown [] ⟨0, 137, 138, 55⟩ [⟨0, 137, 143, 57⟩] (htab.trans rfl) (fun z hz => absurd hz List.not_mem_nil) (by decide) (by decide) (hts (.classLink RL 55 "java/lang/IndexOutOfBoundsException") (by decide +kernel)) (va_Nw.use rfl (hE.2.2.1 _ (by decide))) hcell hcv hcl ?_
      refine lv_astore (lv' := [(4, .ref q), (0, .ref ox), (1, .int 3), (2, .int p1), (3, .int p2)]) hx hb dL_asks_138 hl (by decide) rfl (fun ls hl => ?_)
      refine lv_ldc (v := -1000000030) hx hb hown (hts (.constant RL 92 (-1000000030)) (by decide +kernel)) dL_asks_140 ?_
      exact wq_iretX hx hb hr hlocks dL_asks_142 hw (Nat.le_of_ble_eq_true rfl) (Nat.le_of_ble_eq_true rfl) ⟨congrArg Value.int (by rw [hC]; decide), rfl, rfl⟩
    · refine vx_catch (own := RL) hown [⟨0, 137, 138, 55⟩] ⟨0, 137, 143, 57⟩ [] (htab.trans rfl) (fun z hz => by rw [List.mem_singleton.mp hz]; exact Or.inr ⟨by decide, _, hts (.classLink RL 55 "java/lang/IndexOutOfBoundsException") (by decide +kernel), hN.2.1⟩) (by decide) (by decide) (hts (.classLink RL 57 "java/lang/IllegalArgumentException") (by decide +kernel)) (va_Nw.use rfl (hE.2.2.1 _ (by decide))) hcell hcv hcl ?_
      refine lv_astore (lv' := [(4, .ref q), (0, .ref ox), (1, .int 3), (2, .int p1), (3, .int p2)]) hx hb dL_asks_143 hl (by decide) rfl (fun ls hl => ?_)
      refine lv_ldc (v := -1000000020) hx hb hown (hts (.constant RL 93 (-1000000020)) (by decide +kernel)) dL_asks_145 ?_
      exact wq_iretX hx hb hr hlocks dL_asks_147 hw (Nat.le_of_ble_eq_true rfl) (Nat.le_of_ble_eq_true rfl) ⟨congrArg Value.int (by rw [hC]; decide), rfl, rfl⟩
  obtain ⟨hC, er, ra2, ar2, hS⟩ := hpost
  exact absurd hC hne
set_option maxHeartbeats 4000000 in
set_option maxRecDepth 100000 in
theorem m_L_asks_topUp (l : Launch) (hnt : l.stackTraces = false) {G : wy_G} {L : List Nat} {f fa : Nat → va_E} {sz : Nat} {ox lo : Nat} {ra ar : Nat → Nat} {n : Nat} {km mn : Int32} {wk : Nat} {po : Nat → Int32} {rr : Nat → wr_V} (hq : wx_S G L f ox lo ra ar n km mn wk po rr) (p1 p2 : Int32) (hne : ¬ (ewC wk p1 p2) = 0) : vx_Met l yL_asks wsL_asks ({ frames := 8, cells := 2, slots := 12, locals := 134 } : Room) (va_Pc [.ref ox, .int 4, .int p1, .int p2] (wq_P G L f [] fa sz)) (wq_Q G L [] sz (wd_a L f (dea (ewC wk p1 p2)))) (fun _ _ _ => False) 2 12 (wy_A (L ++ []) sz) := by
  refine vx_ofWH (cc := cL_asks) (maxL := 5) (ret := (some .int)) (hh := [(0, 137, 138, 55), (0, 137, 143, 57)]) (by decide) rfl ?_
  intro p e s m args below meth c s₁ B hml hv
  obtain ⟨rfl, hP⟩ := hv
  obtain ⟨hw, hK, hA⟩ := wq_start hP
  obtain ⟨hv, -, -, hE, hZ, hN⟩ := hP
  have hsz := hv.1
  subst hsz
  have hx := B.exec
  have hb := B.bytes
  have hr := B.returns
  have hts := atoms_spec (ws := wsL_asks) B.pre
  have hown : s.vm.findClass RL = some m.cls := findClass_of_methodNamed B.named
  have hlocks := B.notSynchronized
  have htab := vx_table (x := yL_asks) B (hts (.codeWith yL_asks cL_asks 5 (some .int) [(0, 137, 138, 55), (0, 137, 143, 57)]) List.mem_cons_self)
  have hl := lv_entry ([.ref ox, .int 4, .int p1, .int p2]) (n := 5) (Nat.le_of_ble_eq_true rfl)
  rw [lg_entry_eq]
  generalize (lg_sl ([.ref ox, .int 4, .int p1, .int p2]) ++ List.replicate (5 - (lg_sl ([.ref ox, .int 4, .int p1, .int p2])).length) Slot.unset).toArray = ls at hl ⊢
  have hl : lv_has ls 5 [(0, .ref ox), (1, .int 4), (2, .int p1), (3, .int p2)] := hl
  refine lv_iload_n hx hb dL_asks_0 rfl (lv_at hl 1 rfl) ?_
  refine lv_if_ne (tgt := 12) hx hb dL_asks_1 (by decide) (fun _ => ?_) (fun z => absurd z (by decide))
  refine lv_iload_n hx hb dL_asks_12 rfl (lv_at hl 1 rfl) ?_
  refine lv_iconst (v := 1) hx hb dL_asks_13 (by decide) ?_
  refine lv_icmp_ne (tgt := 26) hx hb dL_asks_14 (by decide) (fun _ => ?_) (fun z => absurd z (by decide))
  refine lv_iload_n hx hb dL_asks_26 rfl (lv_at hl 1 rfl) ?_
  refine lv_iconst (v := 2) hx hb dL_asks_27 (by decide) ?_
  refine lv_icmp_ne (tgt := 47) hx hb dL_asks_28 (by decide) (fun _ => ?_) (fun z => absurd z (by decide))
  refine lv_iload_n hx hb dL_asks_47 rfl (lv_at hl 1 rfl) ?_
  refine lv_iconst (v := 3) hx hb dL_asks_48 (by decide) ?_
  refine lv_icmp_ne (tgt := 61) hx hb dL_asks_49 (by decide) (fun _ => ?_) (fun z => absurd z (by decide))
  refine lv_iload_n hx hb dL_asks_61 rfl (lv_at hl 1 rfl) ?_
  refine lv_iconst (v := 4) hx hb dL_asks_62 (by decide) ?_
  refine lv_icmp_ne (tgt := 75) hx hb dL_asks_63 (by decide) (fun z => absurd z (by decide)) (fun _ => ?_)
  refine lv_aload_n hx hb dL_asks_66 rfl (lv_at hl 0 rfl) ?_
  refine lv_iload_n hx hb dL_asks_67 rfl (lv_at hl 2 rfl) ?_
  refine lv_iload_n hx hb dL_asks_68 rfl (lv_at hl 3 rfl) ?_
  refine wq_callX (vx_runV (As := [.int p1, .int p2]) (rest := []) ⟨hx, hb, hml, hown, hts⟩ (m_X1_topUp l hnt hq (p1) (p2)) (cwV 2 hts gL_asks_X1_topUp rfl rfl rfl (by decide +kernel) ⟨Nat.le_of_ble_eq_true rfl, Nat.le_of_ble_eq_true rfl⟩) (wt_pV hK hE hw.1 hA hq.1 rfl) rfl rfl hl.1 rfl (lv_room (Nat.le_of_ble_eq_true rfl)) dL_asks_69 ⟨Nat.le_of_ble_eq_true rfl, Nat.le_of_ble_eq_true rfl⟩) hw hA (fun E ce q H locs hpE hw hcell hcv hcl => ?_) (fun rw_1 Lw_1 fw_1 H locs hpost hw => ?_)
  · rcases hpE with ⟨rfl, hC⟩ | ⟨rfl, hC⟩
    · refine vx_catch (own := RL) hown [] ⟨0, 137, 138, 55⟩ [⟨0, 137, 143, 57⟩] (htab.trans rfl) (fun z hz => absurd hz List.not_mem_nil) (by decide) (by decide) (hts (.classLink RL 55 "java/lang/IndexOutOfBoundsException") (by decide +kernel)) (va_Nw.use rfl (hE.2.2.1 _ (by decide))) hcell hcv hcl ?_
      refine lv_astore (lv' := [(4, .ref q), (0, .ref ox), (1, .int 4), (2, .int p1), (3, .int p2)]) hx hb dL_asks_138 hl (by decide) rfl (fun ls hl => ?_)
      refine lv_ldc (v := -1000000030) hx hb hown (hts (.constant RL 92 (-1000000030)) (by decide +kernel)) dL_asks_140 ?_
      exact wq_iretX hx hb hr hlocks dL_asks_142 hw (Nat.le_of_ble_eq_true rfl) (Nat.le_of_ble_eq_true rfl) ⟨congrArg Value.int (by rw [hC]; decide), rfl, rfl⟩
    · refine vx_catch (own := RL) hown [⟨0, 137, 138, 55⟩] ⟨0, 137, 143, 57⟩ [] (htab.trans rfl) (fun z hz => by rw [List.mem_singleton.mp hz]; exact Or.inr ⟨by decide, _, hts (.classLink RL 55 "java/lang/IndexOutOfBoundsException") (by decide +kernel), hN.2.1⟩) (by decide) (by decide) (hts (.classLink RL 57 "java/lang/IllegalArgumentException") (by decide +kernel)) (va_Nw.use rfl (hE.2.2.1 _ (by decide))) hcell hcv hcl ?_
      refine lv_astore (lv' := [(4, .ref q), (0, .ref ox), (1, .int 4), (2, .int p1), (3, .int p2)]) hx hb dL_asks_143 hl (by decide) rfl (fun ls hl => ?_)
      refine lv_ldc (v := -1000000020) hx hb hown (hts (.constant RL 93 (-1000000020)) (by decide +kernel)) dL_asks_145 ?_
      exact wq_iretX hx hb hr hlocks dL_asks_147 hw (Nat.le_of_ble_eq_true rfl) (Nat.le_of_ble_eq_true rfl) ⟨congrArg Value.int (by rw [hC]; decide), rfl, rfl⟩
  obtain ⟨hC, er, ra2, ar2, hS⟩ := hpost
  exact absurd hC hne
set_option maxHeartbeats 4000000 in
set_option maxRecDepth 100000 in
theorem m_L_asks_pay (l : Launch) (hnt : l.stackTraces = false) {G : wy_G} {L : List Nat} {f fa : Nat → va_E} {sz : Nat} {ox lo : Nat} {ra ar : Nat → Nat} {n : Nat} {km mn : Int32} {wk : Nat} {po : Nat → Int32} {rr : Nat → wr_V} (hq : wx_S G L f ox lo ra ar n km mn wk po rr) (p1 p2 : Int32) (hne : ¬ (ewC wk p1 p2) = 0) : vx_Met l yL_asks wsL_asks ({ frames := 8, cells := 2, slots := 12, locals := 157 } : Room) (va_Pc [.ref ox, .int 6, .int p1, .int p2] (wq_P G L f [] fa sz)) (wq_Q G L [] sz (wd_a L f (dea (ewC wk p1 p2)))) (fun _ _ _ => False) 2 12 (wy_A (L ++ []) sz) := by
  refine vx_ofWH (cc := cL_asks) (maxL := 5) (ret := (some .int)) (hh := [(0, 137, 138, 55), (0, 137, 143, 57)]) (by decide) rfl ?_
  intro p e s m args below meth c s₁ B hml hv
  obtain ⟨rfl, hP⟩ := hv
  obtain ⟨hw, hK, hA⟩ := wq_start hP
  obtain ⟨hv, -, -, hE, hZ, hN⟩ := hP
  have hsz := hv.1
  subst hsz
  have hx := B.exec
  have hb := B.bytes
  have hr := B.returns
  have hts := atoms_spec (ws := wsL_asks) B.pre
  have hown : s.vm.findClass RL = some m.cls := findClass_of_methodNamed B.named
  have hlocks := B.notSynchronized
  have htab := vx_table (x := yL_asks) B (hts (.codeWith yL_asks cL_asks 5 (some .int) [(0, 137, 138, 55), (0, 137, 143, 57)]) List.mem_cons_self)
  have hl := lv_entry ([.ref ox, .int 6, .int p1, .int p2]) (n := 5) (Nat.le_of_ble_eq_true rfl)
  rw [lg_entry_eq]
  generalize (lg_sl ([.ref ox, .int 6, .int p1, .int p2]) ++ List.replicate (5 - (lg_sl ([.ref ox, .int 6, .int p1, .int p2])).length) Slot.unset).toArray = ls at hl ⊢
  have hl : lv_has ls 5 [(0, .ref ox), (1, .int 6), (2, .int p1), (3, .int p2)] := hl
  refine lv_iload_n hx hb dL_asks_0 rfl (lv_at hl 1 rfl) ?_
  refine lv_if_ne (tgt := 12) hx hb dL_asks_1 (by decide) (fun _ => ?_) (fun z => absurd z (by decide))
  refine lv_iload_n hx hb dL_asks_12 rfl (lv_at hl 1 rfl) ?_
  refine lv_iconst (v := 1) hx hb dL_asks_13 (by decide) ?_
  refine lv_icmp_ne (tgt := 26) hx hb dL_asks_14 (by decide) (fun _ => ?_) (fun z => absurd z (by decide))
  refine lv_iload_n hx hb dL_asks_26 rfl (lv_at hl 1 rfl) ?_
  refine lv_iconst (v := 2) hx hb dL_asks_27 (by decide) ?_
  refine lv_icmp_ne (tgt := 47) hx hb dL_asks_28 (by decide) (fun _ => ?_) (fun z => absurd z (by decide))
  refine lv_iload_n hx hb dL_asks_47 rfl (lv_at hl 1 rfl) ?_
  refine lv_iconst (v := 3) hx hb dL_asks_48 (by decide) ?_
  refine lv_icmp_ne (tgt := 61) hx hb dL_asks_49 (by decide) (fun _ => ?_) (fun z => absurd z (by decide))
  refine lv_iload_n hx hb dL_asks_61 rfl (lv_at hl 1 rfl) ?_
  refine lv_iconst (v := 4) hx hb dL_asks_62 (by decide) ?_
  refine lv_icmp_ne (tgt := 75) hx hb dL_asks_63 (by decide) (fun _ => ?_) (fun z => absurd z (by decide))
  refine lv_iload_n hx hb dL_asks_75 rfl (lv_at hl 1 rfl) ?_
  refine lv_iconst (v := 5) hx hb dL_asks_76 (by decide) ?_
  refine lv_icmp_ne (tgt := 89) hx hb dL_asks_77 (by decide) (fun _ => ?_) (fun z => absurd z (by decide))
  refine lv_iload_n hx hb dL_asks_89 rfl (lv_at hl 1 rfl) ?_
  refine lv_bipush (v := 6) hx hb dL_asks_90 (by decide) ?_
  refine lv_icmp_ne (tgt := 104) hx hb dL_asks_92 (by decide) (fun z => absurd z (by decide)) (fun _ => ?_)
  refine lv_aload_n hx hb dL_asks_95 rfl (lv_at hl 0 rfl) ?_
  refine lv_iload_n hx hb dL_asks_96 rfl (lv_at hl 2 rfl) ?_
  refine lv_iload_n hx hb dL_asks_97 rfl (lv_at hl 3 rfl) ?_
  refine wq_callX (vx_runV (As := [.int p1, .int p2]) (rest := []) ⟨hx, hb, hml, hown, hts⟩ (m_X1_pay l hnt hq (p1) (p2)) (cwV 2 hts gL_asks_X1_pay rfl rfl rfl (by decide +kernel) ⟨Nat.le_of_ble_eq_true rfl, Nat.le_of_ble_eq_true rfl⟩) (wt_pV hK hE hw.1 hA hq.1 rfl) rfl rfl hl.1 rfl (lv_room (Nat.le_of_ble_eq_true rfl)) dL_asks_98 ⟨Nat.le_of_ble_eq_true rfl, Nat.le_of_ble_eq_true rfl⟩) hw hA (fun E ce q H locs hpE hw hcell hcv hcl => ?_) (fun rw_1 Lw_1 fw_1 H locs hpost hw => ?_)
  · rcases hpE with ⟨rfl, hC⟩ | ⟨rfl, hC⟩
    · refine vx_catch (own := RL) hown [] ⟨0, 137, 138, 55⟩ [⟨0, 137, 143, 57⟩] (htab.trans rfl) (fun z hz => absurd hz List.not_mem_nil) (by decide) (by decide) (hts (.classLink RL 55 "java/lang/IndexOutOfBoundsException") (by decide +kernel)) (va_Nw.use rfl (hE.2.2.1 _ (by decide))) hcell hcv hcl ?_
      refine lv_astore (lv' := [(4, .ref q), (0, .ref ox), (1, .int 6), (2, .int p1), (3, .int p2)]) hx hb dL_asks_138 hl (by decide) rfl (fun ls hl => ?_)
      refine lv_ldc (v := -1000000030) hx hb hown (hts (.constant RL 92 (-1000000030)) (by decide +kernel)) dL_asks_140 ?_
      exact wq_iretX hx hb hr hlocks dL_asks_142 hw (Nat.le_of_ble_eq_true rfl) (Nat.le_of_ble_eq_true rfl) ⟨congrArg Value.int (by rw [hC]; decide), rfl, rfl⟩
    · refine vx_catch (own := RL) hown [⟨0, 137, 138, 55⟩] ⟨0, 137, 143, 57⟩ [] (htab.trans rfl) (fun z hz => by rw [List.mem_singleton.mp hz]; exact Or.inr ⟨by decide, _, hts (.classLink RL 55 "java/lang/IndexOutOfBoundsException") (by decide +kernel), hN.2.1⟩) (by decide) (by decide) (hts (.classLink RL 57 "java/lang/IllegalArgumentException") (by decide +kernel)) (va_Nw.use rfl (hE.2.2.1 _ (by decide))) hcell hcv hcl ?_
      refine lv_astore (lv' := [(4, .ref q), (0, .ref ox), (1, .int 6), (2, .int p1), (3, .int p2)]) hx hb dL_asks_143 hl (by decide) rfl (fun ls hl => ?_)
      refine lv_ldc (v := -1000000020) hx hb hown (hts (.constant RL 93 (-1000000020)) (by decide +kernel)) dL_asks_145 ?_
      exact wq_iretX hx hb hr hlocks dL_asks_147 hw (Nat.le_of_ble_eq_true rfl) (Nat.le_of_ble_eq_true rfl) ⟨congrArg Value.int (by rw [hC]; decide), rfl, rfl⟩
  obtain ⟨hC, er, ra2, ar2, hS⟩ := hpost
  exact absurd hC hne
set_option maxHeartbeats 4000000 in
set_option maxRecDepth 100000 in
theorem m_L_asks_balance (l : Launch) (hnt : l.stackTraces = false) {G : wy_G} {L : List Nat} {f fa : Nat → va_E} {sz : Nat} {ox lo : Nat} {ra ar : Nat → Nat} {n : Nat} {km mn : Int32} {wk : Nat} {po : Nat → Int32} {rr : Nat → wr_V} (hq : wx_S G L f ox lo ra ar n km mn wk po rr) (p1 p2 : Int32) (hne : ¬ (okC 5 p1) = 0) : vx_Met l yL_asks wsL_asks ({ frames := 9, cells := 1, slots := 6, locals := 201 } : Room) (va_Pc [.ref ox, .int 7, .int p1, .int p2] (wq_P G L f [] fa sz)) (wq_Q G L [] sz (wd_a L f (dea (okC 5 p1)))) (fun _ _ _ => False) 1 6 (wy_A (L ++ []) sz) := by
  refine vx_ofWH (cc := cL_asks) (maxL := 5) (ret := (some .int)) (hh := [(0, 137, 138, 55), (0, 137, 143, 57)]) (by decide) rfl ?_
  intro p e s m args below meth c s₁ B hml hv
  obtain ⟨rfl, hP⟩ := hv
  obtain ⟨hw, hK, hA⟩ := wq_start hP
  obtain ⟨hv, -, -, hE, hZ, hN⟩ := hP
  have hsz := hv.1
  subst hsz
  have hx := B.exec
  have hb := B.bytes
  have hr := B.returns
  have hts := atoms_spec (ws := wsL_asks) B.pre
  have hown : s.vm.findClass RL = some m.cls := findClass_of_methodNamed B.named
  have hlocks := B.notSynchronized
  have htab := vx_table (x := yL_asks) B (hts (.codeWith yL_asks cL_asks 5 (some .int) [(0, 137, 138, 55), (0, 137, 143, 57)]) List.mem_cons_self)
  have hl := lv_entry ([.ref ox, .int 7, .int p1, .int p2]) (n := 5) (Nat.le_of_ble_eq_true rfl)
  rw [lg_entry_eq]
  generalize (lg_sl ([.ref ox, .int 7, .int p1, .int p2]) ++ List.replicate (5 - (lg_sl ([.ref ox, .int 7, .int p1, .int p2])).length) Slot.unset).toArray = ls at hl ⊢
  have hl : lv_has ls 5 [(0, .ref ox), (1, .int 7), (2, .int p1), (3, .int p2)] := hl
  refine lv_iload_n hx hb dL_asks_0 rfl (lv_at hl 1 rfl) ?_
  refine lv_if_ne (tgt := 12) hx hb dL_asks_1 (by decide) (fun _ => ?_) (fun z => absurd z (by decide))
  refine lv_iload_n hx hb dL_asks_12 rfl (lv_at hl 1 rfl) ?_
  refine lv_iconst (v := 1) hx hb dL_asks_13 (by decide) ?_
  refine lv_icmp_ne (tgt := 26) hx hb dL_asks_14 (by decide) (fun _ => ?_) (fun z => absurd z (by decide))
  refine lv_iload_n hx hb dL_asks_26 rfl (lv_at hl 1 rfl) ?_
  refine lv_iconst (v := 2) hx hb dL_asks_27 (by decide) ?_
  refine lv_icmp_ne (tgt := 47) hx hb dL_asks_28 (by decide) (fun _ => ?_) (fun z => absurd z (by decide))
  refine lv_iload_n hx hb dL_asks_47 rfl (lv_at hl 1 rfl) ?_
  refine lv_iconst (v := 3) hx hb dL_asks_48 (by decide) ?_
  refine lv_icmp_ne (tgt := 61) hx hb dL_asks_49 (by decide) (fun _ => ?_) (fun z => absurd z (by decide))
  refine lv_iload_n hx hb dL_asks_61 rfl (lv_at hl 1 rfl) ?_
  refine lv_iconst (v := 4) hx hb dL_asks_62 (by decide) ?_
  refine lv_icmp_ne (tgt := 75) hx hb dL_asks_63 (by decide) (fun _ => ?_) (fun z => absurd z (by decide))
  refine lv_iload_n hx hb dL_asks_75 rfl (lv_at hl 1 rfl) ?_
  refine lv_iconst (v := 5) hx hb dL_asks_76 (by decide) ?_
  refine lv_icmp_ne (tgt := 89) hx hb dL_asks_77 (by decide) (fun _ => ?_) (fun z => absurd z (by decide))
  refine lv_iload_n hx hb dL_asks_89 rfl (lv_at hl 1 rfl) ?_
  refine lv_bipush (v := 6) hx hb dL_asks_90 (by decide) ?_
  refine lv_icmp_ne (tgt := 104) hx hb dL_asks_92 (by decide) (fun _ => ?_) (fun z => absurd z (by decide))
  refine lv_iload_n hx hb dL_asks_104 rfl (lv_at hl 1 rfl) ?_
  refine lv_bipush (v := 7) hx hb dL_asks_105 (by decide) ?_
  refine lv_icmp_ne (tgt := 118) hx hb dL_asks_107 (by decide) (fun z => absurd z (by decide)) (fun _ => ?_)
  refine lv_aload_n hx hb dL_asks_110 rfl (lv_at hl 0 rfl) ?_
  refine lv_iload_n hx hb dL_asks_111 rfl (lv_at hl 2 rfl) ?_
  refine wq_callX (vx_runV (As := [.int p1]) (rest := []) ⟨hx, hb, hml, hown, hts⟩ (m_X1_balance l hnt hq (p1)) (cwV 1 hts gL_asks_X1_balance rfl rfl rfl (by decide +kernel) ⟨Nat.le_of_ble_eq_true rfl, Nat.le_of_ble_eq_true rfl⟩) (wt_pV hK hE hw.1 hA hq.1 rfl) rfl rfl hl.1 rfl (lv_room (Nat.le_of_ble_eq_true rfl)) dL_asks_112 ⟨Nat.le_of_ble_eq_true rfl, Nat.le_of_ble_eq_true rfl⟩) hw hA (fun E ce q H locs hpE hw hcell hcv hcl => ?_) (fun rw_1 Lw_1 fw_1 H locs hpost hw => ?_)
  · obtain ⟨rfl, hC⟩ := hpE
    refine vx_catch (own := RL) hown [] ⟨0, 137, 138, 55⟩ [⟨0, 137, 143, 57⟩] (htab.trans rfl) (fun z hz => absurd hz List.not_mem_nil) (by decide) (by decide) (hts (.classLink RL 55 "java/lang/IndexOutOfBoundsException") (by decide +kernel)) (va_Nw.use rfl (hE.2.2.1 _ (by decide))) hcell hcv hcl ?_
    refine lv_astore (lv' := [(4, .ref q), (0, .ref ox), (1, .int 7), (2, .int p1), (3, .int p2)]) hx hb dL_asks_138 hl (by decide) rfl (fun ls hl => ?_)
    refine lv_ldc (v := -1000000030) hx hb hown (hts (.constant RL 92 (-1000000030)) (by decide +kernel)) dL_asks_140 ?_
    exact wq_iretX hx hb hr hlocks dL_asks_142 hw (Nat.le_of_ble_eq_true rfl) (Nat.le_of_ble_eq_true rfl) ⟨congrArg Value.int (by rw [hC]; decide), rfl, rfl⟩
  obtain ⟨hC, er, ra2, ar2, hS⟩ := hpost
  exact absurd hC hne
set_option maxHeartbeats 4000000 in
set_option maxRecDepth 100000 in
theorem m_L_asks_paid (l : Launch) (hnt : l.stackTraces = false) {G : wy_G} {L : List Nat} {f fa : Nat → va_E} {sz : Nat} {ox lo : Nat} {ra ar : Nat → Nat} {n : Nat} {km mn : Int32} {wk : Nat} {po : Nat → Int32} {rr : Nat → wr_V} (hq : wx_S G L f ox lo ra ar n km mn wk po rr) (p1 p2 : Int32) (hne : ¬ (okC 5 p1) = 0) : vx_Met l yL_asks wsL_asks ({ frames := 8, cells := 1, slots := 6, locals := 123 } : Room) (va_Pc [.ref ox, .int 8, .int p1, .int p2] (wq_P G L f [] fa sz)) (wq_Q G L [] sz (wd_a L f (dea (okC 5 p1)))) (fun _ _ _ => False) 1 6 (wy_A (L ++ []) sz) := by
  refine vx_ofWH (cc := cL_asks) (maxL := 5) (ret := (some .int)) (hh := [(0, 137, 138, 55), (0, 137, 143, 57)]) (by decide) rfl ?_
  intro p e s m args below meth c s₁ B hml hv
  obtain ⟨rfl, hP⟩ := hv
  obtain ⟨hw, hK, hA⟩ := wq_start hP
  obtain ⟨hv, -, -, hE, hZ, hN⟩ := hP
  have hsz := hv.1
  subst hsz
  have hx := B.exec
  have hb := B.bytes
  have hr := B.returns
  have hts := atoms_spec (ws := wsL_asks) B.pre
  have hown : s.vm.findClass RL = some m.cls := findClass_of_methodNamed B.named
  have hlocks := B.notSynchronized
  have htab := vx_table (x := yL_asks) B (hts (.codeWith yL_asks cL_asks 5 (some .int) [(0, 137, 138, 55), (0, 137, 143, 57)]) List.mem_cons_self)
  have hl := lv_entry ([.ref ox, .int 8, .int p1, .int p2]) (n := 5) (Nat.le_of_ble_eq_true rfl)
  rw [lg_entry_eq]
  generalize (lg_sl ([.ref ox, .int 8, .int p1, .int p2]) ++ List.replicate (5 - (lg_sl ([.ref ox, .int 8, .int p1, .int p2])).length) Slot.unset).toArray = ls at hl ⊢
  have hl : lv_has ls 5 [(0, .ref ox), (1, .int 8), (2, .int p1), (3, .int p2)] := hl
  refine lv_iload_n hx hb dL_asks_0 rfl (lv_at hl 1 rfl) ?_
  refine lv_if_ne (tgt := 12) hx hb dL_asks_1 (by decide) (fun _ => ?_) (fun z => absurd z (by decide))
  refine lv_iload_n hx hb dL_asks_12 rfl (lv_at hl 1 rfl) ?_
  refine lv_iconst (v := 1) hx hb dL_asks_13 (by decide) ?_
  refine lv_icmp_ne (tgt := 26) hx hb dL_asks_14 (by decide) (fun _ => ?_) (fun z => absurd z (by decide))
  refine lv_iload_n hx hb dL_asks_26 rfl (lv_at hl 1 rfl) ?_
  refine lv_iconst (v := 2) hx hb dL_asks_27 (by decide) ?_
  refine lv_icmp_ne (tgt := 47) hx hb dL_asks_28 (by decide) (fun _ => ?_) (fun z => absurd z (by decide))
  refine lv_iload_n hx hb dL_asks_47 rfl (lv_at hl 1 rfl) ?_
  refine lv_iconst (v := 3) hx hb dL_asks_48 (by decide) ?_
  refine lv_icmp_ne (tgt := 61) hx hb dL_asks_49 (by decide) (fun _ => ?_) (fun z => absurd z (by decide))
  refine lv_iload_n hx hb dL_asks_61 rfl (lv_at hl 1 rfl) ?_
  refine lv_iconst (v := 4) hx hb dL_asks_62 (by decide) ?_
  refine lv_icmp_ne (tgt := 75) hx hb dL_asks_63 (by decide) (fun _ => ?_) (fun z => absurd z (by decide))
  refine lv_iload_n hx hb dL_asks_75 rfl (lv_at hl 1 rfl) ?_
  refine lv_iconst (v := 5) hx hb dL_asks_76 (by decide) ?_
  refine lv_icmp_ne (tgt := 89) hx hb dL_asks_77 (by decide) (fun _ => ?_) (fun z => absurd z (by decide))
  refine lv_iload_n hx hb dL_asks_89 rfl (lv_at hl 1 rfl) ?_
  refine lv_bipush (v := 6) hx hb dL_asks_90 (by decide) ?_
  refine lv_icmp_ne (tgt := 104) hx hb dL_asks_92 (by decide) (fun _ => ?_) (fun z => absurd z (by decide))
  refine lv_iload_n hx hb dL_asks_104 rfl (lv_at hl 1 rfl) ?_
  refine lv_bipush (v := 7) hx hb dL_asks_105 (by decide) ?_
  refine lv_icmp_ne (tgt := 118) hx hb dL_asks_107 (by decide) (fun _ => ?_) (fun z => absurd z (by decide))
  refine lv_iload_n hx hb dL_asks_118 rfl (lv_at hl 1 rfl) ?_
  refine lv_bipush (v := 8) hx hb dL_asks_119 (by decide) ?_
  refine lv_icmp_ne (tgt := 132) hx hb dL_asks_121 (by decide) (fun z => absurd z (by decide)) (fun _ => ?_)
  refine lv_aload_n hx hb dL_asks_124 rfl (lv_at hl 0 rfl) ?_
  refine lv_iload_n hx hb dL_asks_125 rfl (lv_at hl 2 rfl) ?_
  refine wq_callX (vx_runV (As := [.int p1]) (rest := []) ⟨hx, hb, hml, hown, hts⟩ (m_X1_paid l hnt hq (p1)) (cwV 1 hts gL_asks_X1_paid rfl rfl rfl (by decide +kernel) ⟨Nat.le_of_ble_eq_true rfl, Nat.le_of_ble_eq_true rfl⟩) (wt_pV hK hE hw.1 hA hq.1 rfl) rfl rfl hl.1 rfl (lv_room (Nat.le_of_ble_eq_true rfl)) dL_asks_126 ⟨Nat.le_of_ble_eq_true rfl, Nat.le_of_ble_eq_true rfl⟩) hw hA (fun E ce q H locs hpE hw hcell hcv hcl => ?_) (fun rw_1 Lw_1 fw_1 H locs hpost hw => ?_)
  · obtain ⟨rfl, hC⟩ := hpE
    refine vx_catch (own := RL) hown [] ⟨0, 137, 138, 55⟩ [⟨0, 137, 143, 57⟩] (htab.trans rfl) (fun z hz => absurd hz List.not_mem_nil) (by decide) (by decide) (hts (.classLink RL 55 "java/lang/IndexOutOfBoundsException") (by decide +kernel)) (va_Nw.use rfl (hE.2.2.1 _ (by decide))) hcell hcv hcl ?_
    refine lv_astore (lv' := [(4, .ref q), (0, .ref ox), (1, .int 8), (2, .int p1), (3, .int p2)]) hx hb dL_asks_138 hl (by decide) rfl (fun ls hl => ?_)
    refine lv_ldc (v := -1000000030) hx hb hown (hts (.constant RL 92 (-1000000030)) (by decide +kernel)) dL_asks_140 ?_
    exact wq_iretX hx hb hr hlocks dL_asks_142 hw (Nat.le_of_ble_eq_true rfl) (Nat.le_of_ble_eq_true rfl) ⟨congrArg Value.int (by rw [hC]; decide), rfl, rfl⟩
  obtain ⟨hC, er, ra2, ar2, hS⟩ := hpost
  exact absurd hC hne
set_option maxHeartbeats 4000000 in
set_option maxRecDepth 100000 in
theorem m_L_asks_spent (l : Launch) (hnt : l.stackTraces = false) {G : wy_G} {L : List Nat} {f fa : Nat → va_E} {sz : Nat} {ox lo : Nat} {ra ar : Nat → Nat} {n : Nat} {km mn : Int32} {wk : Nat} {po : Nat → Int32} {rr : Nat → wr_V} (hq : wx_S G L f ox lo ra ar n km mn wk po rr) (p1 p2 : Int32) (hne : ¬ (okC 10 p1) = 0) : vx_Met l yL_asks wsL_asks ({ frames := 8, cells := 1, slots := 6, locals := 126 } : Room) (va_Pc [.ref ox, .int 9, .int p1, .int p2] (wq_P G L f [] fa sz)) (wq_Q G L [] sz (wd_a L f (dea (okC 10 p1)))) (fun _ _ _ => False) 1 6 (wy_A (L ++ []) sz) := by
  refine vx_ofWH (cc := cL_asks) (maxL := 5) (ret := (some .int)) (hh := [(0, 137, 138, 55), (0, 137, 143, 57)]) (by decide) rfl ?_
  intro p e s m args below meth c s₁ B hml hv
  obtain ⟨rfl, hP⟩ := hv
  obtain ⟨hw, hK, hA⟩ := wq_start hP
  obtain ⟨hv, -, -, hE, hZ, hN⟩ := hP
  have hsz := hv.1
  subst hsz
  have hx := B.exec
  have hb := B.bytes
  have hr := B.returns
  have hts := atoms_spec (ws := wsL_asks) B.pre
  have hown : s.vm.findClass RL = some m.cls := findClass_of_methodNamed B.named
  have hlocks := B.notSynchronized
  have htab := vx_table (x := yL_asks) B (hts (.codeWith yL_asks cL_asks 5 (some .int) [(0, 137, 138, 55), (0, 137, 143, 57)]) List.mem_cons_self)
  have hl := lv_entry ([.ref ox, .int 9, .int p1, .int p2]) (n := 5) (Nat.le_of_ble_eq_true rfl)
  rw [lg_entry_eq]
  generalize (lg_sl ([.ref ox, .int 9, .int p1, .int p2]) ++ List.replicate (5 - (lg_sl ([.ref ox, .int 9, .int p1, .int p2])).length) Slot.unset).toArray = ls at hl ⊢
  have hl : lv_has ls 5 [(0, .ref ox), (1, .int 9), (2, .int p1), (3, .int p2)] := hl
  refine lv_iload_n hx hb dL_asks_0 rfl (lv_at hl 1 rfl) ?_
  refine lv_if_ne (tgt := 12) hx hb dL_asks_1 (by decide) (fun _ => ?_) (fun z => absurd z (by decide))
  refine lv_iload_n hx hb dL_asks_12 rfl (lv_at hl 1 rfl) ?_
  refine lv_iconst (v := 1) hx hb dL_asks_13 (by decide) ?_
  refine lv_icmp_ne (tgt := 26) hx hb dL_asks_14 (by decide) (fun _ => ?_) (fun z => absurd z (by decide))
  refine lv_iload_n hx hb dL_asks_26 rfl (lv_at hl 1 rfl) ?_
  refine lv_iconst (v := 2) hx hb dL_asks_27 (by decide) ?_
  refine lv_icmp_ne (tgt := 47) hx hb dL_asks_28 (by decide) (fun _ => ?_) (fun z => absurd z (by decide))
  refine lv_iload_n hx hb dL_asks_47 rfl (lv_at hl 1 rfl) ?_
  refine lv_iconst (v := 3) hx hb dL_asks_48 (by decide) ?_
  refine lv_icmp_ne (tgt := 61) hx hb dL_asks_49 (by decide) (fun _ => ?_) (fun z => absurd z (by decide))
  refine lv_iload_n hx hb dL_asks_61 rfl (lv_at hl 1 rfl) ?_
  refine lv_iconst (v := 4) hx hb dL_asks_62 (by decide) ?_
  refine lv_icmp_ne (tgt := 75) hx hb dL_asks_63 (by decide) (fun _ => ?_) (fun z => absurd z (by decide))
  refine lv_iload_n hx hb dL_asks_75 rfl (lv_at hl 1 rfl) ?_
  refine lv_iconst (v := 5) hx hb dL_asks_76 (by decide) ?_
  refine lv_icmp_ne (tgt := 89) hx hb dL_asks_77 (by decide) (fun _ => ?_) (fun z => absurd z (by decide))
  refine lv_iload_n hx hb dL_asks_89 rfl (lv_at hl 1 rfl) ?_
  refine lv_bipush (v := 6) hx hb dL_asks_90 (by decide) ?_
  refine lv_icmp_ne (tgt := 104) hx hb dL_asks_92 (by decide) (fun _ => ?_) (fun z => absurd z (by decide))
  refine lv_iload_n hx hb dL_asks_104 rfl (lv_at hl 1 rfl) ?_
  refine lv_bipush (v := 7) hx hb dL_asks_105 (by decide) ?_
  refine lv_icmp_ne (tgt := 118) hx hb dL_asks_107 (by decide) (fun _ => ?_) (fun z => absurd z (by decide))
  refine lv_iload_n hx hb dL_asks_118 rfl (lv_at hl 1 rfl) ?_
  refine lv_bipush (v := 8) hx hb dL_asks_119 (by decide) ?_
  refine lv_icmp_ne (tgt := 132) hx hb dL_asks_121 (by decide) (fun _ => ?_) (fun z => absurd z (by decide))
  refine lv_aload_n hx hb dL_asks_132 rfl (lv_at hl 0 rfl) ?_
  refine lv_iload_n hx hb dL_asks_133 rfl (lv_at hl 2 rfl) ?_
  refine wq_callX (vx_runV (As := [.int p1]) (rest := []) ⟨hx, hb, hml, hown, hts⟩ (m_X1_spent l hnt hq (p1)) (cwV 1 hts gL_asks_X1_spent rfl rfl rfl (by decide +kernel) ⟨Nat.le_of_ble_eq_true rfl, Nat.le_of_ble_eq_true rfl⟩) (wt_pV hK hE hw.1 hA hq.1 rfl) rfl rfl hl.1 rfl (lv_room (Nat.le_of_ble_eq_true rfl)) dL_asks_134 ⟨Nat.le_of_ble_eq_true rfl, Nat.le_of_ble_eq_true rfl⟩) hw hA (fun E ce q H locs hpE hw hcell hcv hcl => ?_) (fun rw_1 Lw_1 fw_1 H locs hpost hw => ?_)
  · obtain ⟨rfl, hC⟩ := hpE
    refine vx_catch (own := RL) hown [] ⟨0, 137, 138, 55⟩ [⟨0, 137, 143, 57⟩] (htab.trans rfl) (fun z hz => absurd hz List.not_mem_nil) (by decide) (by decide) (hts (.classLink RL 55 "java/lang/IndexOutOfBoundsException") (by decide +kernel)) (va_Nw.use rfl (hE.2.2.1 _ (by decide))) hcell hcv hcl ?_
    refine lv_astore (lv' := [(4, .ref q), (0, .ref ox), (1, .int 9), (2, .int p1), (3, .int p2)]) hx hb dL_asks_138 hl (by decide) rfl (fun ls hl => ?_)
    refine lv_ldc (v := -1000000030) hx hb hown (hts (.constant RL 92 (-1000000030)) (by decide +kernel)) dL_asks_140 ?_
    exact wq_iretX hx hb hr hlocks dL_asks_142 hw (Nat.le_of_ble_eq_true rfl) (Nat.le_of_ble_eq_true rfl) ⟨congrArg Value.int (by rw [hC]; decide), rfl, rfl⟩
  obtain ⟨hC, er, ra2, ar2, hS⟩ := hpost
  exact absurd hC hne
set_option maxHeartbeats 4000000 in
set_option maxRecDepth 100000 in
theorem m_L_average (l : Launch) (hnt : l.stackTraces = false) {G : wy_G} {L : List Nat} {f fa : Nat → va_E} {sz : Nat} {ox lo : Nat} {ra ar : Nat → Nat} {n : Nat} {km mn : Int32} {wk : Nat} {po : Nat → Int32} {rr : Nat → wr_V} (hq : wx_S G L f ox lo ra ar n km mn wk po rr) (p1 : Int32) : vx_Met l yL_average wsL_average ({ frames := 8, cells := 2, slots := 12, locals := 127 } : Room) (va_Pc [.ref ox, .int p1] (wq_P G L f [] fa sz)) (wq_Q G L [] sz (wd_v G ox lo n km mn wk po rr (dev (avC rr n p1) (mean (avsS rr n (ix p1)) (avcS rr n (ix p1)))))) (fun _ _ _ => False) 2 12 (wy_A (L ++ []) sz) := by
  refine vx_ofWH (cc := cL_average) (maxL := 3) (ret := (some .float)) (hh := [(0, 5, 6, 55), (0, 5, 10, 59)]) (by decide) rfl ?_
  intro p e s m args below meth c s₁ B hml hv
  obtain ⟨rfl, hP⟩ := hv
  obtain ⟨hw, hK, hA⟩ := wq_start hP
  obtain ⟨hv, -, -, hE, hZ, hN⟩ := hP
  have hsz := hv.1
  subst hsz
  have hx := B.exec
  have hb := B.bytes
  have hr := B.returns
  have hts := atoms_spec (ws := wsL_average) B.pre
  have hown : s.vm.findClass RL = some m.cls := findClass_of_methodNamed B.named
  have hlocks := B.notSynchronized
  have htab := vx_table (x := yL_average) B (hts (.codeWith yL_average cL_average 3 (some .float) [(0, 5, 6, 55), (0, 5, 10, 59)]) List.mem_cons_self)
  have hl := lv_entry ([.ref ox, .int p1]) (n := 3) (Nat.le_of_ble_eq_true rfl)
  rw [lg_entry_eq]
  generalize (lg_sl ([.ref ox, .int p1]) ++ List.replicate (3 - (lg_sl ([.ref ox, .int p1])).length) Slot.unset).toArray = ls at hl ⊢
  have hl : lv_has ls 3 [(0, .ref ox), (1, .int p1)] := hl
  refine lv_aload_n hx hb dL_average_0 rfl (lv_at hl 0 rfl) ?_
  refine lv_iload_n hx hb dL_average_1 rfl (lv_at hl 1 rfl) ?_
  refine wq_callX (vx_runV (As := [.int p1]) (rest := []) ⟨hx, hb, hml, hown, hts⟩ (m_X1_averageCharge l hnt hq (p1)) (cwV 1 hts gL_average_X1_averageCharge rfl rfl rfl (by decide +kernel) ⟨Nat.le_of_ble_eq_true rfl, Nat.le_of_ble_eq_true rfl⟩) (wt_pV hK hE hw.1 hA hq.1 rfl) rfl rfl hl.1 rfl (lv_room (Nat.le_of_ble_eq_true rfl)) dL_average_2 ⟨Nat.le_of_ble_eq_true rfl, Nat.le_of_ble_eq_true rfl⟩) hw hA (fun E ce q H locs hpE hw hcell hcv hcl => ?_) (fun rw_1 Lw_1 fw_1 H locs hpost hw => ?_)
  · rcases hpE with ⟨rfl, hC⟩ | ⟨rfl, hC⟩
    · refine vx_catch (own := RL) hown [] ⟨0, 5, 6, 55⟩ [⟨0, 5, 10, 59⟩] (htab.trans rfl) (fun z hz => absurd hz List.not_mem_nil) (by decide) (by decide) (hts (.classLink RL 55 "java/lang/IndexOutOfBoundsException") (by decide +kernel)) (va_Nw.use rfl (hE.2.2.1 _ (by decide))) hcell hcv hcl ?_
      refine lv_astore_n (lv' := [(2, .ref q), (0, .ref ox), (1, .int p1)]) hx hb dL_average_6 rfl hl (by decide) rfl (fun ls hl => ?_)
      refine lv_ldcf (v := 3253731328) hx hb hown (hts (.constantFloat RL 98 (3253731328)) (by decide +kernel)) dL_average_7 ?_
      exact wq_fretX hx hb hr hlocks dL_average_9 hw (Nat.le_of_ble_eq_true rfl) (Nat.le_of_ble_eq_true rfl) ⟨congrArg Value.float (by rw [hC]; rfl), ra, ar, hq⟩
    · refine vx_catch (own := RL) hown [⟨0, 5, 6, 55⟩] ⟨0, 5, 10, 59⟩ [] (htab.trans rfl) (fun z hz => by rw [List.mem_singleton.mp hz]; exact Or.inr ⟨by decide, _, hts (.classLink RL 55 "java/lang/IndexOutOfBoundsException") (by decide +kernel), hN.1⟩) (by decide) (by decide) (hts (.classLink RL 59 "java/lang/IllegalStateException") (by decide +kernel)) (va_Nw.use rfl (hE.2.2.1 _ (by decide))) hcell hcv hcl ?_
      refine lv_astore_n (lv' := [(2, .ref q), (0, .ref ox), (1, .int p1)]) hx hb dL_average_10 rfl hl (by decide) rfl (fun ls hl => ?_)
      refine lv_ldcf (v := 3240099840) hx hb hown (hts (.constantFloat RL 99 (3240099840)) (by decide +kernel)) dL_average_11 ?_
      exact wq_fretX hx hb hr hlocks dL_average_13 hw (Nat.le_of_ble_eq_true rfl) (Nat.le_of_ble_eq_true rfl) ⟨congrArg Value.float (by rw [hC]; rfl), ra, ar, hq⟩
  obtain ⟨hC, er, ra2, ar2, hS⟩ := hpost
  subst er
  exact wq_fretX hx hb hr hlocks dL_average_5 hw (Nat.le_of_ble_eq_true rfl) (Nat.le_of_ble_eq_true rfl) ⟨congrArg Value.float (by rw [hC]; rfl), ra2, ar2, hS⟩
