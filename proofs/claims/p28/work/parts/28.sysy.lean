set_option maxHeartbeats 4000000 in
set_option maxRecDepth 100000 in
theorem m_X1_book (l : Launch) (hnt : l.stackTraces = false) {G : wy_G} {L : List Nat} {f : Nat → va_E} {sz : Nat} {ox lo : Nat} {ra ar : Nat → Nat} {n : Nat} {km mn : Int32} {wk : Nat} {po : Nat → Int32} {rr : Nat → wr_V} (hq : wx_S G L f ox lo ra ar n km mn wk po rr) (p1 p2 : Int32) : vx_Met l yX1_book wsX1_book ({ frames := 8, cells := 4, slots := 24, locals := 126 } : Room) (va_Pc [.ref ox, .int p1, .int p2] (wt_P G L f sz)) (wy_Q G (wx_p G ox lo n km mn wk po (va_up rr (ix p1) (vBook (rr (ix p1)) (ix p2))) (some (.int (freeR (vBook (rr (ix p1)) (ix p2))))) (rdC n p1 p2 (bkB (rr (ix p1)) (ix p2)))) (wy_A L sz)) (wt_X G (px2 (rdC n p1 p2 (bkB (rr (ix p1)) (ix p2)))) L f (wy_A L sz)) 4 24 (wy_A L sz) := by
  refine vx_ofW (cc := cX1_book) (maxL := 4) (ret := (some .int)) (by decide) rfl ?_
  intro p e s m args below meth c s₁ B hml htab hv
  obtain ⟨rfl, hv, hE⟩ := hv
  obtain ⟨hw, hK, hA⟩ := wy_start hv
  have hsz := hv.1
  subst hsz
  have hx := B.exec
  have hb := B.bytes
  have hr := B.returns
  have hts := atoms_spec (ws := wsX1_book) B.pre
  have hown : s.vm.findClass RX1 = some m.cls := findClass_of_methodNamed B.named
  have hlocks := B.notSynchronized
  obtain ⟨md, he, cap, gg, hL1, -⟩ := id hq.2.1
  have hn : n ≤ 40 := hq.2.2.2.2.1
  have hwk : wk ≤ 20 := hq.2.2.2.2.2.1
  have hl := lv_entry ([.ref ox, .int p1, .int p2]) (n := 4) (Nat.le_of_ble_eq_true rfl)
  rw [lg_entry_eq]
  generalize (lg_sl ([.ref ox, .int p1, .int p2]) ++ List.replicate (4 - (lg_sl ([.ref ox, .int p1, .int p2])).length) Slot.unset).toArray = ls at hl ⊢
  have hl : lv_has ls 4 [(0, .ref ox), (1, .int p1), (2, .int p2)] := hl
  refine lv_aload_n hx hb dX1_book_0 rfl (lv_at hl 0 rfl) ?_
  refine lv_iload_n hx hb dX1_book_1 rfl (lv_at hl 1 rfl) ?_
  refine lv_iload_n hx hb dX1_book_2 rfl (lv_at hl 2 rfl) ?_
  refine wt_call (fun E h => h.elim (fun h => Or.inl ⟨h.1, by simp only [rdC, h.2, Bool.false_eq_true, if_false]⟩) (fun h => Or.inr ⟨h.1, by simp [rdC, h.2.1, h.2.2, bkB]⟩)) (vx_runV (As := [.int p1, .int p2]) (rest := []) ⟨hx, hb, hml, hown, hts⟩ (m_X1_rideUnderWay l hnt hq (p1) (p2)) (cwV 2 hts gX1_book_X1_rideUnderWay rfl rfl rfl (by decide +kernel) ⟨Nat.le_of_ble_eq_true rfl, Nat.le_of_ble_eq_true rfl⟩) (wt_pV hK hE hw hA hq.1 rfl) rfl rfl hl.1 rfl (lv_room (Nat.le_of_ble_eq_true rfl)) dX1_book_3 ⟨Nat.le_of_ble_eq_true rfl, Nat.le_of_ble_eq_true rfl⟩) hw hA htab hlocks (Nat.le_of_ble_eq_true rfl) (Nat.le_of_ble_eq_true rfl) (fun rw_1 Lw_1 fw_1 H locs hpost hw => ?_)
  obtain ⟨er_1, eL_1, ef_1, hok1, hok2, hfin⟩ := hpost
  subst er_1
  obtain rfl := eL_1.symm
  obtain rfl := ef_1.symm
  obtain ⟨hk1, e1⟩ := okN_ix hok1 (by omega)
  obtain ⟨hr10, e2⟩ := okN_ix hok2 (by omega)
  refine lv_astore_n (lv' := [(3, .ref (ra (ix p1))), (0, .ref ox), (1, .int p1), (2, .int p2)]) hx hb dX1_book_6 rfl hl (by decide) rfl (fun ls hl => ?_)
  refine lv_aload_n hx hb dX1_book_7 rfl (lv_at hl 0 rfl) ?_
  refine lv_iload_n hx hb dX1_book_8 rfl (lv_at hl 3 rfl) ?_
  refine vp_callSi (W.runV (As := [.int p2]) (rest := []) ⟨hx, hb, hml, hown, hts⟩ (m_X0_hasBooked l (hq.2.2.2.1 (ix p1) (by omega)) (p2) ((ix p2)) (by omega) e2) (cwV 1 hts gX1_book_X0_hasBooked rfl rfl rfl (by decide +kernel) ⟨Nat.le_of_ble_eq_true rfl, Nat.le_of_ble_eq_true rfl⟩) (wy_pVR hK hw.1 (hq.2.2.2.1 (ix p1) (by omega)).1 rfl) rfl rfl hl.1 rfl (lv_room (Nat.le_of_ble_eq_true rfl)) dX1_book_9 ⟨Nat.le_of_ble_eq_true rfl, Nat.le_of_ble_eq_true rfl⟩) (fun r_2 er_2 => ?_)
  refine lv_if_ne (tgt := 23) hx hb dX1_book_12 (by decide) (fun c_3 => ?_) (fun c_3 => ?_)
  · have bc_3 : (rbk (rr (ix p1)) ((ix p2))) = true := bI_1 (fun z => c_3 (er_2.trans z))
    exact wt_throw (is := 74) (text := "the rider has a seat") wt_gdS wt_nbS (by decide) (by decide +kernel) hx hb hnt hown (by decide) (hts (.classLink RX1 42 "java/lang/IllegalStateException") (by decide +kernel)) (hts (.initialized "java/lang/IllegalStateException") (by decide +kernel)) (fun w h => hts w ((by decide +kernel : ∀ w ∈ (vx_atS RX1 46 "java/lang/IllegalStateException" wt_nm).filter goodWord, w ∈ wsX1_book) w h)) hE hw (by rw [hml]; exact hl.1) dX1_book_23 dX1_book_26 dX1_book_27 dX1_book_29 dX1_book_32 htab (Nat.le_of_ble_eq_true rfl) (Nat.le_of_ble_eq_true rfl) (Nat.le_of_ble_eq_true rfl) (Nat.le_of_ble_eq_true rfl) hlocks (Nat.le_of_ble_eq_true rfl) (Nat.le_of_ble_eq_true rfl) (Or.inr ⟨rfl, by simp [rdC, bkB, hok1, hok2, hfin, bc_3]⟩)
  · have bc_3 : (rbk (rr (ix p1)) ((ix p2))) = false := bI_0 (er_2.symm.trans c_3)
    refine lv_aload_n hx hb dX1_book_15 rfl (lv_at hl 0 rfl) ?_
    refine lv_iload_n hx hb dX1_book_16 rfl (lv_at hl 3 rfl) ?_
    refine vp_callSi (W.runV (As := [.int p2]) (rest := []) ⟨hx, hb, hml, hown, hts⟩ (m_X0_hasAboard l (hq.2.2.2.1 (ix p1) (by omega)) (p2) ((ix p2)) (by omega) e2) (cwV 1 hts gX1_book_X0_hasAboard rfl rfl rfl (by decide +kernel) ⟨Nat.le_of_ble_eq_true rfl, Nat.le_of_ble_eq_true rfl⟩) (wy_pVR hK hw.1 (hq.2.2.2.1 (ix p1) (by omega)).1 rfl) rfl rfl hl.1 rfl (lv_room (Nat.le_of_ble_eq_true rfl)) dX1_book_17 ⟨Nat.le_of_ble_eq_true rfl, Nat.le_of_ble_eq_true rfl⟩) (fun r_4 er_4 => ?_)
    refine lv_if_eq (tgt := 33) hx hb dX1_book_20 (by decide) (fun c_5 => ?_) (fun c_5 => ?_)
    · have bc_5 : (rsd (rr (ix p1)) ((ix p2))) = false := bI_0 (er_4.symm.trans c_5)
      refine lv_aload_n hx hb dX1_book_33 rfl (lv_at hl 0 rfl) ?_
      refine vp_callSi (W.runV (As := []) (rest := []) ⟨hx, hb, hml, hown, hts⟩ (m_X0_freeSeats l (hq.2.2.2.1 (ix p1) (by omega))) (cwV 0 hts gX1_book_X0_freeSeats rfl rfl rfl (by decide +kernel) ⟨Nat.le_of_ble_eq_true rfl, Nat.le_of_ble_eq_true rfl⟩) (wy_pVR hK hw.1 (hq.2.2.2.1 (ix p1) (by omega)).1 rfl) rfl rfl hl.1 rfl (lv_room (Nat.le_of_ble_eq_true rfl)) dX1_book_34 ⟨Nat.le_of_ble_eq_true rfl, Nat.le_of_ble_eq_true rfl⟩) (fun r_6 er_6 => ?_)
      refine lv_if_gt (tgt := 50) hx hb dX1_book_37 (by decide) (fun c_7 => ?_) (fun c_7 => ?_)
      · have hfr_8 : ¬ freeR (rr (ix p1)) ≤ 0 := by rw [← er_6]; exact Int32.not_le.mpr c_7
        refine lv_aload_n hx hb dX1_book_50 rfl (lv_at hl 0 rfl) ?_
        refine lv_iload_n hx hb dX1_book_51 rfl (lv_at hl 3 rfl) ?_
        refine wy_call (va_runV (As := [.int p2]) (rest := []) ⟨hx, hb, hml, hown, hts⟩ (m_X0_addBooking l (hq.2.2.2.1 (ix p1) (by omega)) (p2) ((ix p2)) (by omega) e2) (cwV 1 hts gX1_book_X0_addBooking rfl rfl rfl (by decide +kernel) ⟨Nat.le_of_ble_eq_true rfl, Nat.le_of_ble_eq_true rfl⟩) (wy_pVW hK hw (hq.2.2.2.1 (ix p1) (by omega)).1 rfl) rfl rfl hl.1 rfl (lv_room (Nat.le_of_ble_eq_true rfl)) dX1_book_52 ⟨Nat.le_of_ble_eq_true rfl, Nat.le_of_ble_eq_true rfl⟩) hw hA (fun rw_9 Lw_9 fw_9 H locs hpost hw => ?_)
        obtain ⟨er_9, eL_9, hro_9, hfr_9⟩ := hpost
        subst er_9
        obtain rfl := eL_9.symm
        have hq := hq.ride hk1 hro_9 hfr_9
        refine lv_aload_n hx hb dX1_book_55 rfl (lv_at hl 0 rfl) ?_
        refine vp_callSi (W.runV (As := []) (rest := []) ⟨hx, hb, hml, hown, hts⟩ (m_X0_freeSeats l hro_9) (cwV 0 hts gX1_book_X0_freeSeats rfl rfl rfl (by decide +kernel) ⟨Nat.le_of_ble_eq_true rfl, Nat.le_of_ble_eq_true rfl⟩) (wy_pVR hK hw.1 hro_9.1 rfl) rfl rfl hl.1 rfl (lv_room (Nat.le_of_ble_eq_true rfl)) dX1_book_56 ⟨Nat.le_of_ble_eq_true rfl, Nat.le_of_ble_eq_true rfl⟩) (fun r_10 er_10 => ?_)
        exact vx_ret (wy_iW hx hb hr hlocks dX1_book_59 hw (Nat.le_of_ble_eq_true rfl) (Nat.le_of_ble_eq_true rfl) ⟨by simp [rdC, bkB, hok1, hok2, hfin, bc_3, bc_5, hfr_8], by rw [er_10], _, _, hq⟩)
      · have hfr_11 : freeR (rr (ix p1)) ≤ 0 := by rw [← er_6]; exact Int32.not_lt.mp c_7
        exact wt_throw (is := 79) (text := "no seat is free") wt_gdS wt_nbS (by decide) (by decide +kernel) hx hb hnt hown (by decide) (hts (.classLink RX1 42 "java/lang/IllegalStateException") (by decide +kernel)) (hts (.initialized "java/lang/IllegalStateException") (by decide +kernel)) (fun w h => hts w ((by decide +kernel : ∀ w ∈ (vx_atS RX1 46 "java/lang/IllegalStateException" wt_nm).filter goodWord, w ∈ wsX1_book) w h)) hE hw (by rw [hml]; exact hl.1) dX1_book_40 dX1_book_43 dX1_book_44 dX1_book_46 dX1_book_49 htab (Nat.le_of_ble_eq_true rfl) (Nat.le_of_ble_eq_true rfl) (Nat.le_of_ble_eq_true rfl) (Nat.le_of_ble_eq_true rfl) hlocks (Nat.le_of_ble_eq_true rfl) (Nat.le_of_ble_eq_true rfl) (Or.inr ⟨rfl, by simp [rdC, bkB, hok1, hok2, hfin, bc_3, bc_5, hfr_11]⟩)
    · have bc_5 : (rsd (rr (ix p1)) ((ix p2))) = true := bI_1 (fun z => c_5 (er_4.trans z))
      exact wt_throw (is := 74) (text := "the rider has a seat") wt_gdS wt_nbS (by decide) (by decide +kernel) hx hb hnt hown (by decide) (hts (.classLink RX1 42 "java/lang/IllegalStateException") (by decide +kernel)) (hts (.initialized "java/lang/IllegalStateException") (by decide +kernel)) (fun w h => hts w ((by decide +kernel : ∀ w ∈ (vx_atS RX1 46 "java/lang/IllegalStateException" wt_nm).filter goodWord, w ∈ wsX1_book) w h)) hE hw (by rw [hml]; exact hl.1) dX1_book_23 dX1_book_26 dX1_book_27 dX1_book_29 dX1_book_32 htab (Nat.le_of_ble_eq_true rfl) (Nat.le_of_ble_eq_true rfl) (Nat.le_of_ble_eq_true rfl) (Nat.le_of_ble_eq_true rfl) hlocks (Nat.le_of_ble_eq_true rfl) (Nat.le_of_ble_eq_true rfl) (Or.inr ⟨rfl, by simp [rdC, bkB, hok1, hok2, hfin, bc_3, bc_5]⟩)
set_option maxHeartbeats 4000000 in
set_option maxRecDepth 100000 in
theorem m_X1_cancel (l : Launch) (hnt : l.stackTraces = false) {G : wy_G} {L : List Nat} {f : Nat → va_E} {sz : Nat} {ox lo : Nat} {ra ar : Nat → Nat} {n : Nat} {km mn : Int32} {wk : Nat} {po : Nat → Int32} {rr : Nat → wr_V} (hq : wx_S G L f ox lo ra ar n km mn wk po rr) (p1 p2 : Int32) : vx_Met l yX1_cancel wsX1_cancel ({ frames := 8, cells := 4, slots := 24, locals := 126 } : Room) (va_Pc [.ref ox, .int p1, .int p2] (wt_P G L f sz)) (wy_Q G (wx_p G ox lo n km mn wk po (va_up rr (ix p1) (vDrop (rr (ix p1)) (ix p2))) (some (.int (feeR (rr (ix p1))))) (rdC n p1 p2 (cnB (rr (ix p1)) (ix p2)))) (wy_A L sz)) (wt_X G (px2 (rdC n p1 p2 (cnB (rr (ix p1)) (ix p2)))) L f (wy_A L sz)) 4 24 (wy_A L sz) := by
  refine vx_ofW (cc := cX1_cancel) (maxL := 4) (ret := (some .int)) (by decide) rfl ?_
  intro p e s m args below meth c s₁ B hml htab hv
  obtain ⟨rfl, hv, hE⟩ := hv
  obtain ⟨hw, hK, hA⟩ := wy_start hv
  have hsz := hv.1
  subst hsz
  have hx := B.exec
  have hb := B.bytes
  have hr := B.returns
  have hts := atoms_spec (ws := wsX1_cancel) B.pre
  have hown : s.vm.findClass RX1 = some m.cls := findClass_of_methodNamed B.named
  have hlocks := B.notSynchronized
  obtain ⟨md, he, cap, gg, hL1, -⟩ := id hq.2.1
  have hn : n ≤ 40 := hq.2.2.2.2.1
  have hwk : wk ≤ 20 := hq.2.2.2.2.2.1
  have hl := lv_entry ([.ref ox, .int p1, .int p2]) (n := 4) (Nat.le_of_ble_eq_true rfl)
  rw [lg_entry_eq]
  generalize (lg_sl ([.ref ox, .int p1, .int p2]) ++ List.replicate (4 - (lg_sl ([.ref ox, .int p1, .int p2])).length) Slot.unset).toArray = ls at hl ⊢
  have hl : lv_has ls 4 [(0, .ref ox), (1, .int p1), (2, .int p2)] := hl
  refine lv_aload_n hx hb dX1_cancel_0 rfl (lv_at hl 0 rfl) ?_
  refine lv_iload_n hx hb dX1_cancel_1 rfl (lv_at hl 1 rfl) ?_
  refine lv_iload_n hx hb dX1_cancel_2 rfl (lv_at hl 2 rfl) ?_
  refine wt_call (fun E h => h.elim (fun h => Or.inl ⟨h.1, by simp only [rdC, h.2, Bool.false_eq_true, if_false]⟩) (fun h => Or.inr ⟨h.1, by simp [rdC, h.2.1, h.2.2, cnB]⟩)) (vx_runV (As := [.int p1, .int p2]) (rest := []) ⟨hx, hb, hml, hown, hts⟩ (m_X1_rideUnderWay l hnt hq (p1) (p2)) (cwV 2 hts gX1_cancel_X1_rideUnderWay rfl rfl rfl (by decide +kernel) ⟨Nat.le_of_ble_eq_true rfl, Nat.le_of_ble_eq_true rfl⟩) (wt_pV hK hE hw hA hq.1 rfl) rfl rfl hl.1 rfl (lv_room (Nat.le_of_ble_eq_true rfl)) dX1_cancel_3 ⟨Nat.le_of_ble_eq_true rfl, Nat.le_of_ble_eq_true rfl⟩) hw hA htab hlocks (Nat.le_of_ble_eq_true rfl) (Nat.le_of_ble_eq_true rfl) (fun rw_1 Lw_1 fw_1 H locs hpost hw => ?_)
  obtain ⟨er_1, eL_1, ef_1, hok1, hok2, hfin⟩ := hpost
  subst er_1
  obtain rfl := eL_1.symm
  obtain rfl := ef_1.symm
  obtain ⟨hk1, e1⟩ := okN_ix hok1 (by omega)
  obtain ⟨hr10, e2⟩ := okN_ix hok2 (by omega)
  refine lv_astore_n (lv' := [(3, .ref (ra (ix p1))), (0, .ref ox), (1, .int p1), (2, .int p2)]) hx hb dX1_cancel_6 rfl hl (by decide) rfl (fun ls hl => ?_)
  refine lv_aload_n hx hb dX1_cancel_7 rfl (lv_at hl 0 rfl) ?_
  refine lv_iload_n hx hb dX1_cancel_8 rfl (lv_at hl 3 rfl) ?_
  refine vp_callSi (W.runV (As := [.int p2]) (rest := []) ⟨hx, hb, hml, hown, hts⟩ (m_X0_hasBooked l (hq.2.2.2.1 (ix p1) (by omega)) (p2) ((ix p2)) (by omega) e2) (cwV 1 hts gX1_cancel_X0_hasBooked rfl rfl rfl (by decide +kernel) ⟨Nat.le_of_ble_eq_true rfl, Nat.le_of_ble_eq_true rfl⟩) (wy_pVR hK hw.1 (hq.2.2.2.1 (ix p1) (by omega)).1 rfl) rfl rfl hl.1 rfl (lv_room (Nat.le_of_ble_eq_true rfl)) dX1_cancel_9 ⟨Nat.le_of_ble_eq_true rfl, Nat.le_of_ble_eq_true rfl⟩) (fun r_2 er_2 => ?_)
  refine lv_if_ne (tgt := 25) hx hb dX1_cancel_12 (by decide) (fun c_3 => ?_) (fun c_3 => ?_)
  · have bc_3 : (rbk (rr (ix p1)) ((ix p2))) = true := bI_1 (fun z => c_3 (er_2.trans z))
    refine lv_aload_n hx hb dX1_cancel_25 rfl (lv_at hl 0 rfl) ?_
    refine lv_iload_n hx hb dX1_cancel_26 rfl (lv_at hl 3 rfl) ?_
    refine wy_call (va_runV (As := [.int p2]) (rest := []) ⟨hx, hb, hml, hown, hts⟩ (m_X0_dropBooking l (hq.2.2.2.1 (ix p1) (by omega)) (p2) ((ix p2)) (by omega) e2) (cwV 1 hts gX1_cancel_X0_dropBooking rfl rfl rfl (by decide +kernel) ⟨Nat.le_of_ble_eq_true rfl, Nat.le_of_ble_eq_true rfl⟩) (wy_pVW hK hw (hq.2.2.2.1 (ix p1) (by omega)).1 rfl) rfl rfl hl.1 rfl (lv_room (Nat.le_of_ble_eq_true rfl)) dX1_cancel_27 ⟨Nat.le_of_ble_eq_true rfl, Nat.le_of_ble_eq_true rfl⟩) hw hA (fun rw_4 Lw_4 fw_4 H locs hpost hw => ?_)
    obtain ⟨er_4, eL_4, hro_4, hfr_4⟩ := hpost
    subst er_4
    obtain rfl := eL_4.symm
    have hq := hq.ride hk1 hro_4 hfr_4
    exact vx_ret (wy_iW hx hb hr hlocks dX1_cancel_30 hw (Nat.le_of_ble_eq_true rfl) (Nat.le_of_ble_eq_true rfl) ⟨by simp [rdC, cnB, hok1, hok2, hfin, bc_3], rfl, _, _, hq⟩)
  · have bc_3 : (rbk (rr (ix p1)) ((ix p2))) = false := bI_0 (er_2.symm.trans c_3)
    exact wt_throw (is := 84) (text := "the rider has no booked seat") wt_gdS wt_nbS (by decide) (by decide +kernel) hx hb hnt hown (by decide) (hts (.classLink RX1 42 "java/lang/IllegalStateException") (by decide +kernel)) (hts (.initialized "java/lang/IllegalStateException") (by decide +kernel)) (fun w h => hts w ((by decide +kernel : ∀ w ∈ (vx_atS RX1 46 "java/lang/IllegalStateException" wt_nm).filter goodWord, w ∈ wsX1_cancel) w h)) hE hw (by rw [hml]; exact hl.1) dX1_cancel_15 dX1_cancel_18 dX1_cancel_19 dX1_cancel_21 dX1_cancel_24 htab (Nat.le_of_ble_eq_true rfl) (Nat.le_of_ble_eq_true rfl) (Nat.le_of_ble_eq_true rfl) (Nat.le_of_ble_eq_true rfl) hlocks (Nat.le_of_ble_eq_true rfl) (Nat.le_of_ble_eq_true rfl) (Or.inr ⟨rfl, by simp [rdC, cnB, hok1, hok2, hfin, bc_3]⟩)
set_option maxHeartbeats 4000000 in
set_option maxRecDepth 100000 in
theorem m_X1_board (l : Launch) (hnt : l.stackTraces = false) {G : wy_G} {L : List Nat} {f : Nat → va_E} {sz : Nat} {ox lo : Nat} {ra ar : Nat → Nat} {n : Nat} {km mn : Int32} {wk : Nat} {po : Nat → Int32} {rr : Nat → wr_V} (hq : wx_S G L f ox lo ra ar n km mn wk po rr) (p1 p2 : Int32) : vx_Met l yX1_board wsX1_board ({ frames := 8, cells := 4, slots := 24, locals := 126 } : Room) (va_Pc [.ref ox, .int p1, .int p2] (wt_P G L f sz)) (wy_Q G (wx_p G ox lo n km mn wk po (va_up rr (ix p1) (vTake (rr (ix p1)) (ix p2))) (some (.int (nI (cb (va_up (rsd (rr (ix p1))) (ix p2) true) 10)))) (rdC n p1 p2 (bdB (rr (ix p1)) (ix p2)))) (wy_A L sz)) (wt_X G (px2 (rdC n p1 p2 (bdB (rr (ix p1)) (ix p2)))) L f (wy_A L sz)) 4 24 (wy_A L sz) := by
  refine vx_ofW (cc := cX1_board) (maxL := 4) (ret := (some .int)) (by decide) rfl ?_
  intro p e s m args below meth c s₁ B hml htab hv
  obtain ⟨rfl, hv, hE⟩ := hv
  obtain ⟨hw, hK, hA⟩ := wy_start hv
  have hsz := hv.1
  subst hsz
  have hx := B.exec
  have hb := B.bytes
  have hr := B.returns
  have hts := atoms_spec (ws := wsX1_board) B.pre
  have hown : s.vm.findClass RX1 = some m.cls := findClass_of_methodNamed B.named
  have hlocks := B.notSynchronized
  obtain ⟨md, he, cap, gg, hL1, -⟩ := id hq.2.1
  have hn : n ≤ 40 := hq.2.2.2.2.1
  have hwk : wk ≤ 20 := hq.2.2.2.2.2.1
  have hl := lv_entry ([.ref ox, .int p1, .int p2]) (n := 4) (Nat.le_of_ble_eq_true rfl)
  rw [lg_entry_eq]
  generalize (lg_sl ([.ref ox, .int p1, .int p2]) ++ List.replicate (4 - (lg_sl ([.ref ox, .int p1, .int p2])).length) Slot.unset).toArray = ls at hl ⊢
  have hl : lv_has ls 4 [(0, .ref ox), (1, .int p1), (2, .int p2)] := hl
  refine lv_aload_n hx hb dX1_board_0 rfl (lv_at hl 0 rfl) ?_
  refine lv_iload_n hx hb dX1_board_1 rfl (lv_at hl 1 rfl) ?_
  refine lv_iload_n hx hb dX1_board_2 rfl (lv_at hl 2 rfl) ?_
  refine wt_call (fun E h => h.elim (fun h => Or.inl ⟨h.1, by simp only [rdC, h.2, Bool.false_eq_true, if_false]⟩) (fun h => Or.inr ⟨h.1, by simp [rdC, h.2.1, h.2.2, bdB]⟩)) (vx_runV (As := [.int p1, .int p2]) (rest := []) ⟨hx, hb, hml, hown, hts⟩ (m_X1_rideUnderWay l hnt hq (p1) (p2)) (cwV 2 hts gX1_board_X1_rideUnderWay rfl rfl rfl (by decide +kernel) ⟨Nat.le_of_ble_eq_true rfl, Nat.le_of_ble_eq_true rfl⟩) (wt_pV hK hE hw hA hq.1 rfl) rfl rfl hl.1 rfl (lv_room (Nat.le_of_ble_eq_true rfl)) dX1_board_3 ⟨Nat.le_of_ble_eq_true rfl, Nat.le_of_ble_eq_true rfl⟩) hw hA htab hlocks (Nat.le_of_ble_eq_true rfl) (Nat.le_of_ble_eq_true rfl) (fun rw_1 Lw_1 fw_1 H locs hpost hw => ?_)
  obtain ⟨er_1, eL_1, ef_1, hok1, hok2, hfin⟩ := hpost
  subst er_1
  obtain rfl := eL_1.symm
  obtain rfl := ef_1.symm
  obtain ⟨hk1, e1⟩ := okN_ix hok1 (by omega)
  obtain ⟨hr10, e2⟩ := okN_ix hok2 (by omega)
  refine lv_astore_n (lv' := [(3, .ref (ra (ix p1))), (0, .ref ox), (1, .int p1), (2, .int p2)]) hx hb dX1_board_6 rfl hl (by decide) rfl (fun ls hl => ?_)
  refine lv_aload_n hx hb dX1_board_7 rfl (lv_at hl 0 rfl) ?_
  refine lv_iload_n hx hb dX1_board_8 rfl (lv_at hl 3 rfl) ?_
  refine vp_callSi (W.runV (As := [.int p2]) (rest := []) ⟨hx, hb, hml, hown, hts⟩ (m_X0_hasAboard l (hq.2.2.2.1 (ix p1) (by omega)) (p2) ((ix p2)) (by omega) e2) (cwV 1 hts gX1_board_X0_hasAboard rfl rfl rfl (by decide +kernel) ⟨Nat.le_of_ble_eq_true rfl, Nat.le_of_ble_eq_true rfl⟩) (wy_pVR hK hw.1 (hq.2.2.2.1 (ix p1) (by omega)).1 rfl) rfl rfl hl.1 rfl (lv_room (Nat.le_of_ble_eq_true rfl)) dX1_board_9 ⟨Nat.le_of_ble_eq_true rfl, Nat.le_of_ble_eq_true rfl⟩) (fun r_2 er_2 => ?_)
  refine lv_if_eq (tgt := 25) hx hb dX1_board_12 (by decide) (fun c_3 => ?_) (fun c_3 => ?_)
  · have bc_3 : (rsd (rr (ix p1)) ((ix p2))) = false := bI_0 (er_2.symm.trans c_3)
    refine lv_aload_n hx hb dX1_board_25 rfl (lv_at hl 0 rfl) ?_
    refine lv_iload_n hx hb dX1_board_26 rfl (lv_at hl 3 rfl) ?_
    refine vp_callSi (W.runV (As := [.int p2]) (rest := []) ⟨hx, hb, hml, hown, hts⟩ (m_X0_hasBooked l (hq.2.2.2.1 (ix p1) (by omega)) (p2) ((ix p2)) (by omega) e2) (cwV 1 hts gX1_board_X0_hasBooked rfl rfl rfl (by decide +kernel) ⟨Nat.le_of_ble_eq_true rfl, Nat.le_of_ble_eq_true rfl⟩) (wy_pVR hK hw.1 (hq.2.2.2.1 (ix p1) (by omega)).1 rfl) rfl rfl hl.1 rfl (lv_room (Nat.le_of_ble_eq_true rfl)) dX1_board_27 ⟨Nat.le_of_ble_eq_true rfl, Nat.le_of_ble_eq_true rfl⟩) (fun r_4 er_4 => ?_)
    refine lv_if_ne (tgt := 50) hx hb dX1_board_30 (by decide) (fun c_5 => ?_) (fun c_5 => ?_)
    · have bc_5 : (rbk (rr (ix p1)) ((ix p2))) = true := bI_1 (fun z => c_5 (er_4.trans z))
      refine lv_aload_n hx hb dX1_board_50 rfl (lv_at hl 0 rfl) ?_
      refine lv_iload_n hx hb dX1_board_51 rfl (lv_at hl 3 rfl) ?_
      refine wy_call (va_runV (As := [.int p2]) (rest := []) ⟨hx, hb, hml, hown, hts⟩ (m_X0_takeAboard l (hq.2.2.2.1 (ix p1) (by omega)) (p2) ((ix p2)) (by omega) e2) (cwV 1 hts gX1_board_X0_takeAboard rfl rfl rfl (by decide +kernel) ⟨Nat.le_of_ble_eq_true rfl, Nat.le_of_ble_eq_true rfl⟩) (wy_pVW hK hw (hq.2.2.2.1 (ix p1) (by omega)).1 rfl) rfl rfl hl.1 rfl (lv_room (Nat.le_of_ble_eq_true rfl)) dX1_board_52 ⟨Nat.le_of_ble_eq_true rfl, Nat.le_of_ble_eq_true rfl⟩) hw hA (fun rw_6 Lw_6 fw_6 H locs hpost hw => ?_)
      obtain ⟨er_6, eL_6, hro_6, hfr_6⟩ := hpost
      subst er_6
      obtain rfl := eL_6.symm
      have hq := hq.ride hk1 hro_6 hfr_6
      exact vx_ret (wy_iW hx hb hr hlocks dX1_board_55 hw (Nat.le_of_ble_eq_true rfl) (Nat.le_of_ble_eq_true rfl) ⟨by simp [rdC, bdB, hok1, hok2, hfin, bc_3, bc_5], rfl, _, _, hq⟩)
    · have bc_5 : (rbk (rr (ix p1)) ((ix p2))) = false := bI_0 (er_4.symm.trans c_5)
      refine lv_aload_n hx hb dX1_board_33 rfl (lv_at hl 0 rfl) ?_
      refine vp_callSi (W.runV (As := []) (rest := []) ⟨hx, hb, hml, hown, hts⟩ (m_X0_freeSeats l (hq.2.2.2.1 (ix p1) (by omega))) (cwV 0 hts gX1_board_X0_freeSeats rfl rfl rfl (by decide +kernel) ⟨Nat.le_of_ble_eq_true rfl, Nat.le_of_ble_eq_true rfl⟩) (wy_pVR hK hw.1 (hq.2.2.2.1 (ix p1) (by omega)).1 rfl) rfl rfl hl.1 rfl (lv_room (Nat.le_of_ble_eq_true rfl)) dX1_board_34 ⟨Nat.le_of_ble_eq_true rfl, Nat.le_of_ble_eq_true rfl⟩) (fun r_7 er_7 => ?_)
      refine lv_if_gt (tgt := 50) hx hb dX1_board_37 (by decide) (fun c_8 => ?_) (fun c_8 => ?_)
      · have hfr_9 : ¬ freeR (rr (ix p1)) ≤ 0 := by rw [← er_7]; exact Int32.not_le.mpr c_8
        refine lv_aload_n hx hb dX1_board_50 rfl (lv_at hl 0 rfl) ?_
        refine lv_iload_n hx hb dX1_board_51 rfl (lv_at hl 3 rfl) ?_
        refine wy_call (va_runV (As := [.int p2]) (rest := []) ⟨hx, hb, hml, hown, hts⟩ (m_X0_takeAboard l (hq.2.2.2.1 (ix p1) (by omega)) (p2) ((ix p2)) (by omega) e2) (cwV 1 hts gX1_board_X0_takeAboard rfl rfl rfl (by decide +kernel) ⟨Nat.le_of_ble_eq_true rfl, Nat.le_of_ble_eq_true rfl⟩) (wy_pVW hK hw (hq.2.2.2.1 (ix p1) (by omega)).1 rfl) rfl rfl hl.1 rfl (lv_room (Nat.le_of_ble_eq_true rfl)) dX1_board_52 ⟨Nat.le_of_ble_eq_true rfl, Nat.le_of_ble_eq_true rfl⟩) hw hA (fun rw_10 Lw_10 fw_10 H locs hpost hw => ?_)
        obtain ⟨er_10, eL_10, hro_10, hfr_10⟩ := hpost
        subst er_10
        obtain rfl := eL_10.symm
        have hq := hq.ride hk1 hro_10 hfr_10
        exact vx_ret (wy_iW hx hb hr hlocks dX1_board_55 hw (Nat.le_of_ble_eq_true rfl) (Nat.le_of_ble_eq_true rfl) ⟨by simp [rdC, bdB, hok1, hok2, hfin, bc_3, bc_5, hfr_9], rfl, _, _, hq⟩)
      · have hfr_11 : freeR (rr (ix p1)) ≤ 0 := by rw [← er_7]; exact Int32.not_lt.mp c_8
        exact wt_throw (is := 92) (text := "no seat is booked and none is free") wt_gdS wt_nbS (by decide) (by decide +kernel) hx hb hnt hown (by decide) (hts (.classLink RX1 42 "java/lang/IllegalStateException") (by decide +kernel)) (hts (.initialized "java/lang/IllegalStateException") (by decide +kernel)) (fun w h => hts w ((by decide +kernel : ∀ w ∈ (vx_atS RX1 46 "java/lang/IllegalStateException" wt_nm).filter goodWord, w ∈ wsX1_board) w h)) hE hw (by rw [hml]; exact hl.1) dX1_board_40 dX1_board_43 dX1_board_44 dX1_board_46 dX1_board_49 htab (Nat.le_of_ble_eq_true rfl) (Nat.le_of_ble_eq_true rfl) (Nat.le_of_ble_eq_true rfl) (Nat.le_of_ble_eq_true rfl) hlocks (Nat.le_of_ble_eq_true rfl) (Nat.le_of_ble_eq_true rfl) (Or.inr ⟨rfl, by simp [rdC, bdB, hok1, hok2, hfin, bc_3, bc_5, hfr_11]⟩)
  · have bc_3 : (rsd (rr (ix p1)) ((ix p2))) = true := bI_1 (fun z => c_3 (er_2.trans z))
    exact wt_throw (is := 90) (text := "the rider is aboard") wt_gdS wt_nbS (by decide) (by decide +kernel) hx hb hnt hown (by decide) (hts (.classLink RX1 42 "java/lang/IllegalStateException") (by decide +kernel)) (hts (.initialized "java/lang/IllegalStateException") (by decide +kernel)) (fun w h => hts w ((by decide +kernel : ∀ w ∈ (vx_atS RX1 46 "java/lang/IllegalStateException" wt_nm).filter goodWord, w ∈ wsX1_board) w h)) hE hw (by rw [hml]; exact hl.1) dX1_board_15 dX1_board_18 dX1_board_19 dX1_board_21 dX1_board_24 htab (Nat.le_of_ble_eq_true rfl) (Nat.le_of_ble_eq_true rfl) (Nat.le_of_ble_eq_true rfl) (Nat.le_of_ble_eq_true rfl) hlocks (Nat.le_of_ble_eq_true rfl) (Nat.le_of_ble_eq_true rfl) (Or.inr ⟨rfl, by simp [rdC, bdB, hok1, hok2, hfin, bc_3]⟩)
set_option maxHeartbeats 4000000 in
set_option maxRecDepth 100000 in
theorem m_X1_leave (l : Launch) (hnt : l.stackTraces = false) {G : wy_G} {L : List Nat} {f : Nat → va_E} {sz : Nat} {ox lo : Nat} {ra ar : Nat → Nat} {n : Nat} {km mn : Int32} {wk : Nat} {po : Nat → Int32} {rr : Nat → wr_V} (hq : wx_S G L f ox lo ra ar n km mn wk po rr) (p1 p2 : Int32) : vx_Met l yX1_leave wsX1_leave ({ frames := 8, cells := 4, slots := 24, locals := 126 } : Room) (va_Pc [.ref ox, .int p1, .int p2] (wt_P G L f sz)) (wy_Q G (wx_p G ox lo n km mn wk po (va_up rr (ix p1) (vOut (rr (ix p1)) (ix p2))) (some (.int (rch (rr (ix p1)) (ix p2)))) (rdC n p1 p2 (lvB (rr (ix p1)) (ix p2)))) (wy_A L sz)) (wt_X G (px2 (rdC n p1 p2 (lvB (rr (ix p1)) (ix p2)))) L f (wy_A L sz)) 4 24 (wy_A L sz) := by
  refine vx_ofW (cc := cX1_leave) (maxL := 4) (ret := (some .int)) (by decide) rfl ?_
  intro p e s m args below meth c s₁ B hml htab hv
  obtain ⟨rfl, hv, hE⟩ := hv
  obtain ⟨hw, hK, hA⟩ := wy_start hv
  have hsz := hv.1
  subst hsz
  have hx := B.exec
  have hb := B.bytes
  have hr := B.returns
  have hts := atoms_spec (ws := wsX1_leave) B.pre
  have hown : s.vm.findClass RX1 = some m.cls := findClass_of_methodNamed B.named
  have hlocks := B.notSynchronized
  obtain ⟨md, he, cap, gg, hL1, -⟩ := id hq.2.1
  have hn : n ≤ 40 := hq.2.2.2.2.1
  have hwk : wk ≤ 20 := hq.2.2.2.2.2.1
  have hl := lv_entry ([.ref ox, .int p1, .int p2]) (n := 4) (Nat.le_of_ble_eq_true rfl)
  rw [lg_entry_eq]
  generalize (lg_sl ([.ref ox, .int p1, .int p2]) ++ List.replicate (4 - (lg_sl ([.ref ox, .int p1, .int p2])).length) Slot.unset).toArray = ls at hl ⊢
  have hl : lv_has ls 4 [(0, .ref ox), (1, .int p1), (2, .int p2)] := hl
  refine lv_aload_n hx hb dX1_leave_0 rfl (lv_at hl 0 rfl) ?_
  refine lv_iload_n hx hb dX1_leave_1 rfl (lv_at hl 1 rfl) ?_
  refine lv_iload_n hx hb dX1_leave_2 rfl (lv_at hl 2 rfl) ?_
  refine wt_call (fun E h => h.elim (fun h => Or.inl ⟨h.1, by simp only [rdC, h.2, Bool.false_eq_true, if_false]⟩) (fun h => Or.inr ⟨h.1, by simp [rdC, h.2.1, h.2.2, lvB]⟩)) (vx_runV (As := [.int p1, .int p2]) (rest := []) ⟨hx, hb, hml, hown, hts⟩ (m_X1_rideUnderWay l hnt hq (p1) (p2)) (cwV 2 hts gX1_leave_X1_rideUnderWay rfl rfl rfl (by decide +kernel) ⟨Nat.le_of_ble_eq_true rfl, Nat.le_of_ble_eq_true rfl⟩) (wt_pV hK hE hw hA hq.1 rfl) rfl rfl hl.1 rfl (lv_room (Nat.le_of_ble_eq_true rfl)) dX1_leave_3 ⟨Nat.le_of_ble_eq_true rfl, Nat.le_of_ble_eq_true rfl⟩) hw hA htab hlocks (Nat.le_of_ble_eq_true rfl) (Nat.le_of_ble_eq_true rfl) (fun rw_1 Lw_1 fw_1 H locs hpost hw => ?_)
  obtain ⟨er_1, eL_1, ef_1, hok1, hok2, hfin⟩ := hpost
  subst er_1
  obtain rfl := eL_1.symm
  obtain rfl := ef_1.symm
  obtain ⟨hk1, e1⟩ := okN_ix hok1 (by omega)
  obtain ⟨hr10, e2⟩ := okN_ix hok2 (by omega)
  refine lv_astore_n (lv' := [(3, .ref (ra (ix p1))), (0, .ref ox), (1, .int p1), (2, .int p2)]) hx hb dX1_leave_6 rfl hl (by decide) rfl (fun ls hl => ?_)
  refine lv_aload_n hx hb dX1_leave_7 rfl (lv_at hl 0 rfl) ?_
  refine lv_iload_n hx hb dX1_leave_8 rfl (lv_at hl 3 rfl) ?_
  refine vp_callSi (W.runV (As := [.int p2]) (rest := []) ⟨hx, hb, hml, hown, hts⟩ (m_X0_hasAboard l (hq.2.2.2.1 (ix p1) (by omega)) (p2) ((ix p2)) (by omega) e2) (cwV 1 hts gX1_leave_X0_hasAboard rfl rfl rfl (by decide +kernel) ⟨Nat.le_of_ble_eq_true rfl, Nat.le_of_ble_eq_true rfl⟩) (wy_pVR hK hw.1 (hq.2.2.2.1 (ix p1) (by omega)).1 rfl) rfl rfl hl.1 rfl (lv_room (Nat.le_of_ble_eq_true rfl)) dX1_leave_9 ⟨Nat.le_of_ble_eq_true rfl, Nat.le_of_ble_eq_true rfl⟩) (fun r_2 er_2 => ?_)
  refine lv_if_ne (tgt := 25) hx hb dX1_leave_12 (by decide) (fun c_3 => ?_) (fun c_3 => ?_)
  · have bc_3 : (rsd (rr (ix p1)) ((ix p2))) = true := bI_1 (fun z => c_3 (er_2.trans z))
    refine lv_aload_n hx hb dX1_leave_25 rfl (lv_at hl 0 rfl) ?_
    refine lv_iload_n hx hb dX1_leave_26 rfl (lv_at hl 3 rfl) ?_
    refine wy_call (va_runV (As := [.int p2]) (rest := []) ⟨hx, hb, hml, hown, hts⟩ (m_X0_letOut l (hq.2.2.2.1 (ix p1) (by omega)) (p2) ((ix p2)) (by omega) e2) (cwV 1 hts gX1_leave_X0_letOut rfl rfl rfl (by decide +kernel) ⟨Nat.le_of_ble_eq_true rfl, Nat.le_of_ble_eq_true rfl⟩) (wy_pVW hK hw (hq.2.2.2.1 (ix p1) (by omega)).1 rfl) rfl rfl hl.1 rfl (lv_room (Nat.le_of_ble_eq_true rfl)) dX1_leave_27 ⟨Nat.le_of_ble_eq_true rfl, Nat.le_of_ble_eq_true rfl⟩) hw hA (fun rw_4 Lw_4 fw_4 H locs hpost hw => ?_)
    obtain ⟨er_4, eL_4, hro_4, hfr_4⟩ := hpost
    subst er_4
    obtain rfl := eL_4.symm
    have hq := hq.ride hk1 hro_4 hfr_4
    refine lv_aload_n hx hb dX1_leave_30 rfl (lv_at hl 0 rfl) ?_
    refine lv_iload_n hx hb dX1_leave_31 rfl (lv_at hl 3 rfl) ?_
    refine vp_callSi (W.runV (As := [.int p2]) (rest := []) ⟨hx, hb, hml, hown, hts⟩ (m_X0_chargeOf l hro_4 (p2) ((ix p2)) (by omega) e2) (cwV 1 hts gX1_leave_X0_chargeOf rfl rfl rfl (by decide +kernel) ⟨Nat.le_of_ble_eq_true rfl, Nat.le_of_ble_eq_true rfl⟩) (wy_pVR hK hw.1 hro_4.1 rfl) rfl rfl hl.1 rfl (lv_room (Nat.le_of_ble_eq_true rfl)) dX1_leave_32 ⟨Nat.le_of_ble_eq_true rfl, Nat.le_of_ble_eq_true rfl⟩) (fun r_5 er_5 => ?_)
    exact vx_ret (wy_iW hx hb hr hlocks dX1_leave_35 hw (Nat.le_of_ble_eq_true rfl) (Nat.le_of_ble_eq_true rfl) ⟨by simp [rdC, lvB, hok1, hok2, hfin, bc_3], by rw [er_5]; rfl, _, _, hq⟩)
  · have bc_3 : (rsd (rr (ix p1)) ((ix p2))) = false := bI_0 (er_2.symm.trans c_3)
    exact wt_throw (is := 97) (text := "the rider is not aboard") wt_gdS wt_nbS (by decide) (by decide +kernel) hx hb hnt hown (by decide) (hts (.classLink RX1 42 "java/lang/IllegalStateException") (by decide +kernel)) (hts (.initialized "java/lang/IllegalStateException") (by decide +kernel)) (fun w h => hts w ((by decide +kernel : ∀ w ∈ (vx_atS RX1 46 "java/lang/IllegalStateException" wt_nm).filter goodWord, w ∈ wsX1_leave) w h)) hE hw (by rw [hml]; exact hl.1) dX1_leave_15 dX1_leave_18 dX1_leave_19 dX1_leave_21 dX1_leave_24 htab (Nat.le_of_ble_eq_true rfl) (Nat.le_of_ble_eq_true rfl) (Nat.le_of_ble_eq_true rfl) (Nat.le_of_ble_eq_true rfl) hlocks (Nat.le_of_ble_eq_true rfl) (Nat.le_of_ble_eq_true rfl) (Or.inr ⟨rfl, by simp [rdC, lvB, hok1, hok2, hfin, bc_3]⟩)
set_option maxHeartbeats 4000000 in
set_option maxRecDepth 100000 in
theorem m_X1_dispute (l : Launch) (hnt : l.stackTraces = false) {G : wy_G} {L : List Nat} {f : Nat → va_E} {sz : Nat} {ox lo : Nat} {ra ar : Nat → Nat} {n : Nat} {km mn : Int32} {wk : Nat} {po : Nat → Int32} {rr : Nat → wr_V} (hq : wx_S G L f ox lo ra ar n km mn wk po rr) (p1 p2 : Int32) : vx_Met l yX1_dispute wsX1_dispute ({ frames := 7, cells := 3, slots := 18, locals := 103 } : Room) (va_Pc [.ref ox, .int p1, .int p2] (wt_P G L f sz)) (wy_Q G (wx_p G ox lo n km mn wk po (va_up rr (ix p1) (vDis (rr (ix p1)) (ix p2))) (some (.int (rch (rr (ix p1)) (ix p2)))) (rdC n p1 p2 (dsB (rr (ix p1)) (ix p2)))) (wy_A L sz)) (wt_X G (px2 (rdC n p1 p2 (dsB (rr (ix p1)) (ix p2)))) L f (wy_A L sz)) 3 18 (wy_A L sz) := by
  refine vx_ofW (cc := cX1_dispute) (maxL := 4) (ret := (some .int)) (by decide) rfl ?_
  intro p e s m args below meth c s₁ B hml htab hv
  obtain ⟨rfl, hv, hE⟩ := hv
  obtain ⟨hw, hK, hA⟩ := wy_start hv
  have hsz := hv.1
  subst hsz
  have hx := B.exec
  have hb := B.bytes
  have hr := B.returns
  have hts := atoms_spec (ws := wsX1_dispute) B.pre
  have hown : s.vm.findClass RX1 = some m.cls := findClass_of_methodNamed B.named
  have hlocks := B.notSynchronized
  obtain ⟨md, he, cap, gg, hL1, -⟩ := id hq.2.1
  have hn : n ≤ 40 := hq.2.2.2.2.1
  have hwk : wk ≤ 20 := hq.2.2.2.2.2.1
  have hl := lv_entry ([.ref ox, .int p1, .int p2]) (n := 4) (Nat.le_of_ble_eq_true rfl)
  rw [lg_entry_eq]
  generalize (lg_sl ([.ref ox, .int p1, .int p2]) ++ List.replicate (4 - (lg_sl ([.ref ox, .int p1, .int p2])).length) Slot.unset).toArray = ls at hl ⊢
  have hl : lv_has ls 4 [(0, .ref ox), (1, .int p1), (2, .int p2)] := hl
  refine lv_aload_n hx hb dX1_dispute_0 rfl (lv_at hl 0 rfl) ?_
  refine lv_iload_n hx hb dX1_dispute_1 rfl (lv_at hl 1 rfl) ?_
  refine wt_call (fun E h => Or.inl ⟨h.1, by simp [rdC, h.2]⟩) (vx_runV (As := [.int p1]) (rest := []) ⟨hx, hb, hml, hown, hts⟩ (m_X1_existingRide l hnt hq (p1)) (cwV 1 hts gX1_dispute_X1_existingRide rfl rfl rfl (by decide +kernel) ⟨Nat.le_of_ble_eq_true rfl, Nat.le_of_ble_eq_true rfl⟩) (wt_pV hK hE hw hA hq.1 rfl) rfl rfl hl.1 rfl (lv_room (Nat.le_of_ble_eq_true rfl)) dX1_dispute_2 ⟨Nat.le_of_ble_eq_true rfl, Nat.le_of_ble_eq_true rfl⟩) hw hA htab hlocks (Nat.le_of_ble_eq_true rfl) (Nat.le_of_ble_eq_true rfl) (fun rw_1 Lw_1 fw_1 H locs hpost hw => ?_)
  obtain ⟨er_1, eL_1, ef_1, hok1⟩ := hpost
  subst er_1
  obtain rfl := eL_1.symm
  obtain rfl := ef_1.symm
  obtain ⟨hk1, e1⟩ := okN_ix hok1 (by omega)
  refine lv_astore_n (lv' := [(3, .ref (ra (ix p1))), (0, .ref ox), (1, .int p1), (2, .int p2)]) hx hb dX1_dispute_5 rfl hl (by decide) rfl (fun ls hl => ?_)
  refine lv_iload_n hx hb dX1_dispute_6 rfl (lv_at hl 3 rfl) ?_
  refine wt_call (fun E h => Or.inl ⟨h.1, by simp [rdC, hok1, h.2]⟩) (vx_runS (As := [.int p2]) (rest := []) ⟨hx, hb, hml, hown, hts⟩ (m_X1_checkRider l hnt (G := G) (L := L) (f := f) (p2)) (va_cwS 1 hts gX1_dispute_X1_checkRider rfl rfl rfl (by decide +kernel) ⟨Nat.le_of_ble_eq_true rfl, Nat.le_of_ble_eq_true rfl⟩) (wt_pS hK hE hw hA) rfl rfl hl.1 rfl (lv_room (Nat.le_of_ble_eq_true rfl)) dX1_dispute_7 ⟨Nat.le_of_ble_eq_true rfl, Nat.le_of_ble_eq_true rfl⟩) hw hA htab hlocks (Nat.le_of_ble_eq_true rfl) (Nat.le_of_ble_eq_true rfl) (fun rw_2 Lw_2 fw_2 H locs hpost hw => ?_)
  obtain ⟨er_2, eL_2, ef_2, hok2⟩ := hpost
  subst er_2
  obtain rfl := eL_2.symm
  obtain rfl := ef_2.symm
  obtain ⟨hr10, e2⟩ := okN_ix hok2 (by omega)
  refine lv_aload_n hx hb dX1_dispute_10 rfl (lv_at hl 0 rfl) ?_
  refine vp_callSi (W.runV (As := []) (rest := []) ⟨hx, hb, hml, hown, hts⟩ (m_X0_isFinished l (hq.2.2.2.1 (ix p1) (by omega))) (cwV 0 hts gX1_dispute_X0_isFinished rfl rfl rfl (by decide +kernel) ⟨Nat.le_of_ble_eq_true rfl, Nat.le_of_ble_eq_true rfl⟩) (wy_pVR hK hw.1 (hq.2.2.2.1 (ix p1) (by omega)).1 rfl) rfl rfl hl.1 rfl (lv_room (Nat.le_of_ble_eq_true rfl)) dX1_dispute_11 ⟨Nat.le_of_ble_eq_true rfl, Nat.le_of_ble_eq_true rfl⟩) (fun r_3 er_3 => ?_)
  refine lv_if_ne (tgt := 27) hx hb dX1_dispute_14 (by decide) (fun c_4 => ?_) (fun c_4 => ?_)
  · have bc_4 : (rfi (rr (ix p1))) = true := bI_1 (fun z => c_4 (er_3.trans z))
    refine lv_aload_n hx hb dX1_dispute_27 rfl (lv_at hl 0 rfl) ?_
    refine lv_iload_n hx hb dX1_dispute_28 rfl (lv_at hl 3 rfl) ?_
    refine vp_callSi (W.runV (As := [.int p2]) (rest := []) ⟨hx, hb, hml, hown, hts⟩ (m_X0_chargeOf l (hq.2.2.2.1 (ix p1) (by omega)) (p2) ((ix p2)) (by omega) e2) (cwV 1 hts gX1_dispute_X0_chargeOf rfl rfl rfl (by decide +kernel) ⟨Nat.le_of_ble_eq_true rfl, Nat.le_of_ble_eq_true rfl⟩) (wy_pVR hK hw.1 (hq.2.2.2.1 (ix p1) (by omega)).1 rfl) rfl rfl hl.1 rfl (lv_room (Nat.le_of_ble_eq_true rfl)) dX1_dispute_29 ⟨Nat.le_of_ble_eq_true rfl, Nat.le_of_ble_eq_true rfl⟩) (fun r_5 er_5 => ?_)
    refine lv_if_ne (tgt := 45) hx hb dX1_dispute_32 (by decide) (fun c_6 => ?_) (fun c_6 => ?_)
    · have hc_6 := c_6
      rw [er_5] at hc_6
      refine lv_aload_n hx hb dX1_dispute_45 rfl (lv_at hl 0 rfl) ?_
      refine lv_iload_n hx hb dX1_dispute_46 rfl (lv_at hl 3 rfl) ?_
      refine vp_callSi (W.runV (As := [.int p2]) (rest := []) ⟨hx, hb, hml, hown, hts⟩ (m_X0_hasDisputed l (hq.2.2.2.1 (ix p1) (by omega)) (p2) ((ix p2)) (by omega) e2) (cwV 1 hts gX1_dispute_X0_hasDisputed rfl rfl rfl (by decide +kernel) ⟨Nat.le_of_ble_eq_true rfl, Nat.le_of_ble_eq_true rfl⟩) (wy_pVR hK hw.1 (hq.2.2.2.1 (ix p1) (by omega)).1 rfl) rfl rfl hl.1 rfl (lv_room (Nat.le_of_ble_eq_true rfl)) dX1_dispute_47 ⟨Nat.le_of_ble_eq_true rfl, Nat.le_of_ble_eq_true rfl⟩) (fun r_7 er_7 => ?_)
      refine lv_if_eq (tgt := 63) hx hb dX1_dispute_50 (by decide) (fun c_8 => ?_) (fun c_8 => ?_)
      · have bc_8 : (rdp (rr (ix p1)) ((ix p2))) = false := bI_0 (er_7.symm.trans c_8)
        refine lv_aload_n hx hb dX1_dispute_63 rfl (lv_at hl 0 rfl) ?_
        refine lv_iload_n hx hb dX1_dispute_64 rfl (lv_at hl 3 rfl) ?_
        refine wy_call (va_runV (As := [.int p2]) (rest := []) ⟨hx, hb, hml, hown, hts⟩ (m_X0_addDispute l (hq.2.2.2.1 (ix p1) (by omega)) (p2) ((ix p2)) (by omega) e2) (cwV 1 hts gX1_dispute_X0_addDispute rfl rfl rfl (by decide +kernel) ⟨Nat.le_of_ble_eq_true rfl, Nat.le_of_ble_eq_true rfl⟩) (wy_pVW hK hw (hq.2.2.2.1 (ix p1) (by omega)).1 rfl) rfl rfl hl.1 rfl (lv_room (Nat.le_of_ble_eq_true rfl)) dX1_dispute_65 ⟨Nat.le_of_ble_eq_true rfl, Nat.le_of_ble_eq_true rfl⟩) hw hA (fun rw_9 Lw_9 fw_9 H locs hpost hw => ?_)
        obtain ⟨er_9, eL_9, hro_9, hfr_9⟩ := hpost
        subst er_9
        obtain rfl := eL_9.symm
        have hq := hq.ride hk1 hro_9 hfr_9
        refine lv_aload_n hx hb dX1_dispute_68 rfl (lv_at hl 0 rfl) ?_
        refine lv_iload_n hx hb dX1_dispute_69 rfl (lv_at hl 3 rfl) ?_
        refine vp_callSi (W.runV (As := [.int p2]) (rest := []) ⟨hx, hb, hml, hown, hts⟩ (m_X0_chargeOf l hro_9 (p2) ((ix p2)) (by omega) e2) (cwV 1 hts gX1_dispute_X0_chargeOf rfl rfl rfl (by decide +kernel) ⟨Nat.le_of_ble_eq_true rfl, Nat.le_of_ble_eq_true rfl⟩) (wy_pVR hK hw.1 hro_9.1 rfl) rfl rfl hl.1 rfl (lv_room (Nat.le_of_ble_eq_true rfl)) dX1_dispute_70 ⟨Nat.le_of_ble_eq_true rfl, Nat.le_of_ble_eq_true rfl⟩) (fun r_10 er_10 => ?_)
        exact vx_ret (wy_iW hx hb hr hlocks dX1_dispute_73 hw (Nat.le_of_ble_eq_true rfl) (Nat.le_of_ble_eq_true rfl) ⟨by simp [rdC, dsB, hok1, hok2, bc_4, bc_8, hc_6], by rw [er_10]; rfl, _, _, hq⟩)
      · have bc_8 : (rdp (rr (ix p1)) ((ix p2))) = true := bI_1 (fun z => c_8 (er_7.trans z))
        exact wt_throw (is := 143) (text := "the charge has been disputed") wt_gdS wt_nbS (by decide) (by decide +kernel) hx hb hnt hown (by decide) (hts (.classLink RX1 42 "java/lang/IllegalStateException") (by decide +kernel)) (hts (.initialized "java/lang/IllegalStateException") (by decide +kernel)) (fun w h => hts w ((by decide +kernel : ∀ w ∈ (vx_atS RX1 46 "java/lang/IllegalStateException" wt_nm).filter goodWord, w ∈ wsX1_dispute) w h)) hE hw (by rw [hml]; exact hl.1) dX1_dispute_53 dX1_dispute_56 dX1_dispute_57 dX1_dispute_59 dX1_dispute_62 htab (Nat.le_of_ble_eq_true rfl) (Nat.le_of_ble_eq_true rfl) (Nat.le_of_ble_eq_true rfl) (Nat.le_of_ble_eq_true rfl) hlocks (Nat.le_of_ble_eq_true rfl) (Nat.le_of_ble_eq_true rfl) (Or.inr ⟨rfl, by simp [rdC, dsB, hok1, hok2, bc_4, bc_8, hc_6]⟩)
    · have hc_6 := c_6
      rw [er_5] at hc_6
      exact wt_throw (is := 138) (text := "the charge is 0") wt_gdS wt_nbS (by decide) (by decide +kernel) hx hb hnt hown (by decide) (hts (.classLink RX1 42 "java/lang/IllegalStateException") (by decide +kernel)) (hts (.initialized "java/lang/IllegalStateException") (by decide +kernel)) (fun w h => hts w ((by decide +kernel : ∀ w ∈ (vx_atS RX1 46 "java/lang/IllegalStateException" wt_nm).filter goodWord, w ∈ wsX1_dispute) w h)) hE hw (by rw [hml]; exact hl.1) dX1_dispute_35 dX1_dispute_38 dX1_dispute_39 dX1_dispute_41 dX1_dispute_44 htab (Nat.le_of_ble_eq_true rfl) (Nat.le_of_ble_eq_true rfl) (Nat.le_of_ble_eq_true rfl) (Nat.le_of_ble_eq_true rfl) hlocks (Nat.le_of_ble_eq_true rfl) (Nat.le_of_ble_eq_true rfl) (Or.inr ⟨rfl, by simp [rdC, dsB, hok1, hok2, bc_4, hc_6]⟩)
  · have bc_4 : (rfi (rr (ix p1))) = false := bI_0 (er_3.symm.trans c_4)
    exact wt_throw (is := 136) (text := "the ride is under way") wt_gdS wt_nbS (by decide) (by decide +kernel) hx hb hnt hown (by decide) (hts (.classLink RX1 42 "java/lang/IllegalStateException") (by decide +kernel)) (hts (.initialized "java/lang/IllegalStateException") (by decide +kernel)) (fun w h => hts w ((by decide +kernel : ∀ w ∈ (vx_atS RX1 46 "java/lang/IllegalStateException" wt_nm).filter goodWord, w ∈ wsX1_dispute) w h)) hE hw (by rw [hml]; exact hl.1) dX1_dispute_17 dX1_dispute_20 dX1_dispute_21 dX1_dispute_23 dX1_dispute_26 htab (Nat.le_of_ble_eq_true rfl) (Nat.le_of_ble_eq_true rfl) (Nat.le_of_ble_eq_true rfl) (Nat.le_of_ble_eq_true rfl) hlocks (Nat.le_of_ble_eq_true rfl) (Nat.le_of_ble_eq_true rfl) (Or.inr ⟨rfl, by simp [rdC, dsB, hok1, hok2, bc_4]⟩)
set_option maxHeartbeats 4000000 in
set_option maxRecDepth 100000 in
theorem m_X1_settle (l : Launch) (hnt : l.stackTraces = false) {G : wy_G} {L : List Nat} {f : Nat → va_E} {sz : Nat} {ox lo : Nat} {ra ar : Nat → Nat} {n : Nat} {km mn : Int32} {wk : Nat} {po : Nat → Int32} {rr : Nat → wr_V} (hq : wx_S G L f ox lo ra ar n km mn wk po rr) (p1 p2 p3 : Int32) (bb : Bool) : vx_Met l yX1_settle wsX1_settle ({ frames := 7, cells := 4, slots := 24, locals := 104 } : Room) (va_Pc [.ref ox, .int p1, .int p2, .int p3, .int (bI bb)] (wt_P G L f sz)) (wy_Q G (wx_p G ox lo n km mn wk po (va_up rr (ix p1) (vRef (rr (ix p1)) (ix p2) p3 bb)) (some (.int (rfv (rr (ix p1)) (ix p2) p3))) (slC n p1 p2 p3 (!rdp (rr (ix p1)) (ix p2) || rse (rr (ix p1)) (ix p2)))) (wy_A L sz)) (wt_X G (px3 (slC n p1 p2 p3 (!rdp (rr (ix p1)) (ix p2) || rse (rr (ix p1)) (ix p2)))) L f (wy_A L sz)) 4 24 (wy_A L sz) := by
  refine vx_ofW (cc := cX1_settle) (maxL := 6) (ret := (some .int)) (by decide) rfl ?_
  intro p e s m args below meth c s₁ B hml htab hv
  obtain ⟨rfl, hv, hE⟩ := hv
  obtain ⟨hw, hK, hA⟩ := wy_start hv
  have hsz := hv.1
  subst hsz
  have hx := B.exec
  have hb := B.bytes
  have hr := B.returns
  have hts := atoms_spec (ws := wsX1_settle) B.pre
  have hown : s.vm.findClass RX1 = some m.cls := findClass_of_methodNamed B.named
  have hlocks := B.notSynchronized
  obtain ⟨md, he, cap, gg, hL1, -⟩ := id hq.2.1
  have hn : n ≤ 40 := hq.2.2.2.2.1
  have hwk : wk ≤ 20 := hq.2.2.2.2.2.1
  have hl := lv_entry ([.ref ox, .int p1, .int p2, .int p3, .int (bI bb)]) (n := 6) (Nat.le_of_ble_eq_true rfl)
  rw [lg_entry_eq]
  generalize (lg_sl ([.ref ox, .int p1, .int p2, .int p3, .int (bI bb)]) ++ List.replicate (6 - (lg_sl ([.ref ox, .int p1, .int p2, .int p3, .int (bI bb)])).length) Slot.unset).toArray = ls at hl ⊢
  have hl : lv_has ls 6 [(0, .ref ox), (1, .int p1), (2, .int p2), (3, .int p3), (4, .int (bI bb))] := hl
  refine lv_aload_n hx hb dX1_settle_0 rfl (lv_at hl 0 rfl) ?_
  refine lv_iload_n hx hb dX1_settle_1 rfl (lv_at hl 1 rfl) ?_
  refine wt_call (fun E h => Or.inl ⟨h.1, by simp [slC, h.2]⟩) (vx_runV (As := [.int p1]) (rest := []) ⟨hx, hb, hml, hown, hts⟩ (m_X1_existingRide l hnt hq (p1)) (cwV 1 hts gX1_settle_X1_existingRide rfl rfl rfl (by decide +kernel) ⟨Nat.le_of_ble_eq_true rfl, Nat.le_of_ble_eq_true rfl⟩) (wt_pV hK hE hw hA hq.1 rfl) rfl rfl hl.1 rfl (lv_room (Nat.le_of_ble_eq_true rfl)) dX1_settle_2 ⟨Nat.le_of_ble_eq_true rfl, Nat.le_of_ble_eq_true rfl⟩) hw hA htab hlocks (Nat.le_of_ble_eq_true rfl) (Nat.le_of_ble_eq_true rfl) (fun rw_1 Lw_1 fw_1 H locs hpost hw => ?_)
  obtain ⟨er_1, eL_1, ef_1, hok1⟩ := hpost
  subst er_1
  obtain rfl := eL_1.symm
  obtain rfl := ef_1.symm
  obtain ⟨hk1, e1⟩ := okN_ix hok1 (by omega)
  refine lv_astore (lv' := [(5, .ref (ra (ix p1))), (0, .ref ox), (1, .int p1), (2, .int p2), (3, .int p3), (4, .int (bI bb))]) hx hb dX1_settle_5 hl (by decide) rfl (fun ls hl => ?_)
  refine lv_iload_n hx hb dX1_settle_7 rfl (lv_at hl 3 rfl) ?_
  refine wt_call (fun E h => Or.inl ⟨h.1, by simp [slC, hok1, h.2]⟩) (vx_runS (As := [.int p2]) (rest := []) ⟨hx, hb, hml, hown, hts⟩ (m_X1_checkRider l hnt (G := G) (L := L) (f := f) (p2)) (va_cwS 1 hts gX1_settle_X1_checkRider rfl rfl rfl (by decide +kernel) ⟨Nat.le_of_ble_eq_true rfl, Nat.le_of_ble_eq_true rfl⟩) (wt_pS hK hE hw hA) rfl rfl hl.1 rfl (lv_room (Nat.le_of_ble_eq_true rfl)) dX1_settle_8 ⟨Nat.le_of_ble_eq_true rfl, Nat.le_of_ble_eq_true rfl⟩) hw hA htab hlocks (Nat.le_of_ble_eq_true rfl) (Nat.le_of_ble_eq_true rfl) (fun rw_2 Lw_2 fw_2 H locs hpost hw => ?_)
  obtain ⟨er_2, eL_2, ef_2, hok2⟩ := hpost
  subst er_2
  obtain rfl := eL_2.symm
  obtain rfl := ef_2.symm
  obtain ⟨hr10, e2⟩ := okN_ix hok2 (by omega)
  refine lv_iload_n hx hb dX1_settle_11 rfl (lv_at hl 4 rfl) ?_
  refine lv_iconst (v := 0) hx hb dX1_settle_12 (by decide) ?_
  refine lv_bipush (v := 100) hx hb dX1_settle_13 (by decide) ?_
  refine wt_call (fun E h => Or.inr (Or.inl ⟨h.1, by simp [slC, hok1, hok2, h.2]⟩)) (vx_runS (As := [.int p3, .int 0, .int 100]) (rest := []) ⟨hx, hb, hml, hown, hts⟩ (m_X1_checkRange l hnt (G := G) (L := L) (f := f) (p3) (0) (100)) (va_cwS 3 hts gX1_settle_X1_checkRange rfl rfl rfl (by decide +kernel) ⟨Nat.le_of_ble_eq_true rfl, Nat.le_of_ble_eq_true rfl⟩) (wt_pS hK hE hw hA) rfl rfl hl.1 rfl (lv_room (Nat.le_of_ble_eq_true rfl)) dX1_settle_15 ⟨Nat.le_of_ble_eq_true rfl, Nat.le_of_ble_eq_true rfl⟩) hw hA htab hlocks (Nat.le_of_ble_eq_true rfl) (Nat.le_of_ble_eq_true rfl) (fun rw_4 Lw_4 fw_4 H locs hpost hw => ?_)
  obtain ⟨er_4, eL_4, ef_4, hrg_3⟩ := hpost
  subst er_4
  obtain rfl := eL_4.symm
  obtain rfl := ef_4.symm
  refine lv_aload hx hb dX1_settle_18 (lv_at hl 0 rfl) ?_
  refine lv_iload_n hx hb dX1_settle_20 rfl (lv_at hl 3 rfl) ?_
  refine vp_callSi (W.runV (As := [.int p2]) (rest := []) ⟨hx, hb, hml, hown, hts⟩ (m_X0_hasDisputed l (hq.2.2.2.1 (ix p1) (by omega)) (p2) ((ix p2)) (by omega) e2) (cwV 1 hts gX1_settle_X0_hasDisputed rfl rfl rfl (by decide +kernel) ⟨Nat.le_of_ble_eq_true rfl, Nat.le_of_ble_eq_true rfl⟩) (wy_pVR hK hw.1 (hq.2.2.2.1 (ix p1) (by omega)).1 rfl) rfl rfl hl.1 rfl (lv_room (Nat.le_of_ble_eq_true rfl)) dX1_settle_21 ⟨Nat.le_of_ble_eq_true rfl, Nat.le_of_ble_eq_true rfl⟩) (fun r_5 er_5 => ?_)
  refine lv_if_ne (tgt := 37) hx hb dX1_settle_24 (by decide) (fun c_6 => ?_) (fun c_6 => ?_)
  · have bc_6 : (rdp (rr (ix p1)) ((ix p2))) = true := bI_1 (fun z => c_6 (er_5.trans z))
    refine lv_aload hx hb dX1_settle_37 (lv_at hl 0 rfl) ?_
    refine lv_iload_n hx hb dX1_settle_39 rfl (lv_at hl 3 rfl) ?_
    refine vp_callSi (W.runV (As := [.int p2]) (rest := []) ⟨hx, hb, hml, hown, hts⟩ (m_X0_hasSettled l (hq.2.2.2.1 (ix p1) (by omega)) (p2) ((ix p2)) (by omega) e2) (cwV 1 hts gX1_settle_X0_hasSettled rfl rfl rfl (by decide +kernel) ⟨Nat.le_of_ble_eq_true rfl, Nat.le_of_ble_eq_true rfl⟩) (wy_pVR hK hw.1 (hq.2.2.2.1 (ix p1) (by omega)).1 rfl) rfl rfl hl.1 rfl (lv_room (Nat.le_of_ble_eq_true rfl)) dX1_settle_40 ⟨Nat.le_of_ble_eq_true rfl, Nat.le_of_ble_eq_true rfl⟩) (fun r_7 er_7 => ?_)
    refine lv_if_eq (tgt := 56) hx hb dX1_settle_43 (by decide) (fun c_8 => ?_) (fun c_8 => ?_)
    · have bc_8 : (rse (rr (ix p1)) ((ix p2))) = false := bI_0 (er_7.symm.trans c_8)
      refine lv_aload hx hb dX1_settle_56 (lv_at hl 0 rfl) ?_
      refine lv_iload_n hx hb dX1_settle_58 rfl (lv_at hl 3 rfl) ?_
      refine lv_iload_n hx hb dX1_settle_59 rfl (lv_at hl 4 rfl) ?_
      refine lv_iload hx hb dX1_settle_60 (lv_at hl 5 rfl) ?_
      refine wy_call (va_runV (As := [.int p2, .int p3, .int (bI bb)]) (rest := []) ⟨hx, hb, hml, hown, hts⟩ (m_X0_refund l (hq.2.2.2.1 (ix p1) (by omega)) (p2) ((ix p2)) (by omega) e2 (p3) (bb)) (cwV 3 hts gX1_settle_X0_refund rfl rfl rfl (by decide +kernel) ⟨Nat.le_of_ble_eq_true rfl, Nat.le_of_ble_eq_true rfl⟩) (wy_pVW hK hw (hq.2.2.2.1 (ix p1) (by omega)).1 rfl) rfl rfl hl.1 rfl (lv_room (Nat.le_of_ble_eq_true rfl)) dX1_settle_62 ⟨Nat.le_of_ble_eq_true rfl, Nat.le_of_ble_eq_true rfl⟩) hw hA (fun rw_9 Lw_9 fw_9 H locs hpost hw => ?_)
      obtain ⟨er_9, eL_9, hro_9, hfr_9⟩ := hpost
      subst er_9
      obtain rfl := eL_9.symm
      have hq := hq.ride hk1 hro_9 hfr_9
      exact vx_ret (wy_iW hx hb hr hlocks dX1_settle_65 hw (Nat.le_of_ble_eq_true rfl) (Nat.le_of_ble_eq_true rfl) ⟨by simp [slC, hok1, hok2, hrg_3, bc_6, bc_8], rfl, _, _, hq⟩)
    · have bc_8 : (rse (rr (ix p1)) ((ix p2))) = true := bI_1 (fun z => c_8 (er_7.trans z))
      exact wt_throw (is := 153) (text := "the dispute is settled") wt_gdS wt_nbS (by decide) (by decide +kernel) hx hb hnt hown (by decide) (hts (.classLink RX1 42 "java/lang/IllegalStateException") (by decide +kernel)) (hts (.initialized "java/lang/IllegalStateException") (by decide +kernel)) (fun w h => hts w ((by decide +kernel : ∀ w ∈ (vx_atS RX1 46 "java/lang/IllegalStateException" wt_nm).filter goodWord, w ∈ wsX1_settle) w h)) hE hw (by rw [hml]; exact hl.1) dX1_settle_46 dX1_settle_49 dX1_settle_50 dX1_settle_52 dX1_settle_55 htab (Nat.le_of_ble_eq_true rfl) (Nat.le_of_ble_eq_true rfl) (Nat.le_of_ble_eq_true rfl) (Nat.le_of_ble_eq_true rfl) hlocks (Nat.le_of_ble_eq_true rfl) (Nat.le_of_ble_eq_true rfl) (Or.inr (Or.inr ⟨rfl, by simp [slC, hok1, hok2, hrg_3, bc_6, bc_8]⟩))
  · have bc_6 : (rdp (rr (ix p1)) ((ix p2))) = false := bI_0 (er_5.symm.trans c_6)
    exact wt_throw (is := 148) (text := "the charge has not been disputed") wt_gdS wt_nbS (by decide) (by decide +kernel) hx hb hnt hown (by decide) (hts (.classLink RX1 42 "java/lang/IllegalStateException") (by decide +kernel)) (hts (.initialized "java/lang/IllegalStateException") (by decide +kernel)) (fun w h => hts w ((by decide +kernel : ∀ w ∈ (vx_atS RX1 46 "java/lang/IllegalStateException" wt_nm).filter goodWord, w ∈ wsX1_settle) w h)) hE hw (by rw [hml]; exact hl.1) dX1_settle_27 dX1_settle_30 dX1_settle_31 dX1_settle_33 dX1_settle_36 htab (Nat.le_of_ble_eq_true rfl) (Nat.le_of_ble_eq_true rfl) (Nat.le_of_ble_eq_true rfl) (Nat.le_of_ble_eq_true rfl) hlocks (Nat.le_of_ble_eq_true rfl) (Nat.le_of_ble_eq_true rfl) (Or.inr (Or.inr ⟨rfl, by simp [slC, hok1, hok2, hrg_3, bc_6]⟩))
set_option maxHeartbeats 4000000 in
set_option maxRecDepth 100000 in
theorem m_X1_drive (l : Launch) (hnt : l.stackTraces = false) {G : wy_G} {L : List Nat} {f : Nat → va_E} {sz : Nat} {ox lo : Nat} {ra ar : Nat → Nat} {n : Nat} {km mn : Int32} {wk : Nat} {po : Nat → Int32} {rr : Nat → wr_V} (hq : wx_S G L f ox lo ra ar n km mn wk po rr) (p1 p2 p3 : Int32) : vx_Met l yX1_drive wsX1_drive ({ frames := 7, cells := 4, slots := 24, locals := 104 } : Room) (va_Pc [.ref ox, .int p1, .int p2, .int p3] (wt_P G L f sz)) (wy_Q G (wx_p G ox lo n km mn wk po (va_up rr (ix p1) (vStr (rr (ix p1)) (p2 * km + p3 * mn) p3)) (some (.int (if cb (rsd (rr (ix p1))) 10 = 0 then 0 else p2 * km + p3 * mn))) (dvC n p1 p2 p3 (rfi (rr (ix p1))))) (wy_A L sz)) (wt_X G (px3 (dvC n p1 p2 p3 (rfi (rr (ix p1))))) L f (wy_A L sz)) 4 24 (wy_A L sz) := by
  refine vx_ofW (cc := cX1_drive) (maxL := 5) (ret := (some .int)) (by decide) rfl ?_
  intro p e s m args below meth c s₁ B hml htab hv
  obtain ⟨rfl, hv, hE⟩ := hv
  obtain ⟨hw, hK, hA⟩ := wy_start hv
  have hsz := hv.1
  subst hsz
  have hx := B.exec
  have hb := B.bytes
  have hr := B.returns
  have hts := atoms_spec (ws := wsX1_drive) B.pre
  have hown : s.vm.findClass RX1 = some m.cls := findClass_of_methodNamed B.named
  have hlocks := B.notSynchronized
  have hinX1 : ∀ w ∈ wsX10, w ∈ wsX1_drive := by decide +kernel
  obtain ⟨md, he, cap, gg, hL1, -⟩ := id hq.2.1
  have hn : n ≤ 40 := hq.2.2.2.2.1
  have hwk : wk ≤ 20 := hq.2.2.2.2.2.1
  have hl := lv_entry ([.ref ox, .int p1, .int p2, .int p3]) (n := 5) (Nat.le_of_ble_eq_true rfl)
  rw [lg_entry_eq]
  generalize (lg_sl ([.ref ox, .int p1, .int p2, .int p3]) ++ List.replicate (5 - (lg_sl ([.ref ox, .int p1, .int p2, .int p3])).length) Slot.unset).toArray = ls at hl ⊢
  have hl : lv_has ls 5 [(0, .ref ox), (1, .int p1), (2, .int p2), (3, .int p3)] := hl
  refine lv_aload_n hx hb dX1_drive_0 rfl (lv_at hl 0 rfl) ?_
  refine lv_iload_n hx hb dX1_drive_1 rfl (lv_at hl 1 rfl) ?_
  refine wt_call (fun E h => Or.inl ⟨h.1, by simp [dvC, h.2]⟩) (vx_runV (As := [.int p1]) (rest := []) ⟨hx, hb, hml, hown, hts⟩ (m_X1_existingRide l hnt hq (p1)) (cwV 1 hts gX1_drive_X1_existingRide rfl rfl rfl (by decide +kernel) ⟨Nat.le_of_ble_eq_true rfl, Nat.le_of_ble_eq_true rfl⟩) (wt_pV hK hE hw hA hq.1 rfl) rfl rfl hl.1 rfl (lv_room (Nat.le_of_ble_eq_true rfl)) dX1_drive_2 ⟨Nat.le_of_ble_eq_true rfl, Nat.le_of_ble_eq_true rfl⟩) hw hA htab hlocks (Nat.le_of_ble_eq_true rfl) (Nat.le_of_ble_eq_true rfl) (fun rw_1 Lw_1 fw_1 H locs hpost hw => ?_)
  obtain ⟨er_1, eL_1, ef_1, hok1⟩ := hpost
  subst er_1
  obtain rfl := eL_1.symm
  obtain rfl := ef_1.symm
  obtain ⟨hk1, e1⟩ := okN_ix hok1 (by omega)
  refine lv_astore (lv' := [(4, .ref (ra (ix p1))), (0, .ref ox), (1, .int p1), (2, .int p2), (3, .int p3)]) hx hb dX1_drive_5 hl (by decide) rfl (fun ls hl => ?_)
  refine lv_iload_n hx hb dX1_drive_7 rfl (lv_at hl 3 rfl) ?_
  refine lv_iconst (v := 0) hx hb dX1_drive_8 (by decide) ?_
  refine lv_bipush (v := 100) hx hb dX1_drive_9 (by decide) ?_
  refine wt_call (fun E h => Or.inr (Or.inl ⟨h.1, by simp [dvC, hok1, h.2]⟩)) (vx_runS (As := [.int p2, .int 0, .int 100]) (rest := []) ⟨hx, hb, hml, hown, hts⟩ (m_X1_checkRange l hnt (G := G) (L := L) (f := f) (p2) (0) (100)) (va_cwS 3 hts gX1_drive_X1_checkRange rfl rfl rfl (by decide +kernel) ⟨Nat.le_of_ble_eq_true rfl, Nat.le_of_ble_eq_true rfl⟩) (wt_pS hK hE hw hA) rfl rfl hl.1 rfl (lv_room (Nat.le_of_ble_eq_true rfl)) dX1_drive_11 ⟨Nat.le_of_ble_eq_true rfl, Nat.le_of_ble_eq_true rfl⟩) hw hA htab hlocks (Nat.le_of_ble_eq_true rfl) (Nat.le_of_ble_eq_true rfl) (fun rw_3 Lw_3 fw_3 H locs hpost hw => ?_)
  obtain ⟨er_3, eL_3, ef_3, hrg_2⟩ := hpost
  subst er_3
  obtain rfl := eL_3.symm
  obtain rfl := ef_3.symm
  refine lv_iload_n hx hb dX1_drive_14 rfl (lv_at hl 4 rfl) ?_
  refine lv_iconst (v := 1) hx hb dX1_drive_15 (by decide) ?_
  refine lv_bipush (v := 120) hx hb dX1_drive_16 (by decide) ?_
  refine wt_call (fun E h => Or.inr (Or.inl ⟨h.1, by simp [dvC, hok1, hrg_2, h.2]⟩)) (vx_runS (As := [.int p3, .int 1, .int 120]) (rest := []) ⟨hx, hb, hml, hown, hts⟩ (m_X1_checkRange l hnt (G := G) (L := L) (f := f) (p3) (1) (120)) (va_cwS 3 hts gX1_drive_X1_checkRange rfl rfl rfl (by decide +kernel) ⟨Nat.le_of_ble_eq_true rfl, Nat.le_of_ble_eq_true rfl⟩) (wt_pS hK hE hw hA) rfl rfl hl.1 rfl (lv_room (Nat.le_of_ble_eq_true rfl)) dX1_drive_18 ⟨Nat.le_of_ble_eq_true rfl, Nat.le_of_ble_eq_true rfl⟩) hw hA htab hlocks (Nat.le_of_ble_eq_true rfl) (Nat.le_of_ble_eq_true rfl) (fun rw_5 Lw_5 fw_5 H locs hpost hw => ?_)
  obtain ⟨er_5, eL_5, ef_5, hrg_4⟩ := hpost
  subst er_5
  obtain rfl := eL_5.symm
  obtain rfl := ef_5.symm
  refine lv_aload hx hb dX1_drive_21 (lv_at hl 0 rfl) ?_
  refine wt_call (fun E h => Or.inr (Or.inr ⟨h.1, by simp [dvC, hok1, hrg_2, hrg_4, h.2]⟩)) (vx_runS (As := [.ref (ra (ix p1))]) (rest := []) ⟨hx, hb, hml, hown, hts⟩ (m_X1_checkUnderWay l hnt (hq.2.2.2.1 (ix p1) (by omega))) (va_cwS 1 hts gX1_drive_X1_checkUnderWay rfl rfl rfl (by decide +kernel) ⟨Nat.le_of_ble_eq_true rfl, Nat.le_of_ble_eq_true rfl⟩) (wt_pS hK hE hw hA) rfl rfl hl.1 rfl (lv_room (Nat.le_of_ble_eq_true rfl)) dX1_drive_23 ⟨Nat.le_of_ble_eq_true rfl, Nat.le_of_ble_eq_true rfl⟩) hw hA htab hlocks (Nat.le_of_ble_eq_true rfl) (Nat.le_of_ble_eq_true rfl) (fun rw_6 Lw_6 fw_6 H locs hpost hw => ?_)
  obtain ⟨er_6, eL_6, ef_6, hfin⟩ := hpost
  subst er_6
  obtain rfl := eL_6.symm
  obtain rfl := ef_6.symm
  refine lv_aload hx hb dX1_drive_26 (lv_at hl 0 rfl) ?_
  refine lv_iload_n hx hb dX1_drive_28 rfl (lv_at hl 3 rfl) ?_
  refine lv_aload_n hx hb dX1_drive_29 rfl (lv_at hl 1 rfl) ?_
  refine wy_get (ci := 2) (v := .int km) (C := RX1) (T := TX1) (N := 5) hx hb hts hinX1 hown hK hw.1 hq.1 rfl 2 (by decide) (hts (.fieldLink RX1 20 "Wheelpay" "kilometreRate" "I") (by decide +kernel)) (fun _ h9 => h9) rfl dX1_drive_30 ?_
  refine lv_imul hx hb dX1_drive_33 ?_
  refine lv_topi (fun x_7 ex_7 => ?_)
  refine lv_iload_n hx hb dX1_drive_34 rfl (lv_at hl 4 rfl) ?_
  refine lv_aload_n hx hb dX1_drive_35 rfl (lv_at hl 1 rfl) ?_
  refine wy_get (ci := 2) (v := .int mn) (C := RX1) (T := TX1) (N := 5) hx hb hts hinX1 hown hK hw.1 hq.1 rfl 3 (by decide) (hts (.fieldLink RX1 24 "Wheelpay" "minuteRate" "I") (by decide +kernel)) (fun _ h9 => h9) rfl dX1_drive_36 ?_
  refine lv_imul hx hb dX1_drive_39 ?_
  refine lv_topi (fun x_8 ex_8 => ?_)
  refine lv_iadd hx hb dX1_drive_40 ?_
  refine lv_topi (fun x_9 ex_9 => ?_)
  refine lv_iload_n hx hb dX1_drive_41 rfl (lv_at hl 4 rfl) ?_
  obtain rfl : x_9 = p2 * km + p3 * mn := by simp only [ex_7, ex_8, ex_9]
  refine wy_call (va_runV (As := [.int (p2 * km + p3 * mn), .int p3]) (rest := []) ⟨hx, hb, hml, hown, hts⟩ (m_X0_addStretch l (hq.2.2.2.1 (ix p1) (by omega)) (p2 * km + p3 * mn) (p3)) (cwV 2 hts gX1_drive_X0_addStretch rfl rfl rfl (by decide +kernel) ⟨Nat.le_of_ble_eq_true rfl, Nat.le_of_ble_eq_true rfl⟩) (wy_pVW hK hw (hq.2.2.2.1 (ix p1) (by omega)).1 rfl) rfl rfl hl.1 rfl (lv_room (Nat.le_of_ble_eq_true rfl)) dX1_drive_42 ⟨Nat.le_of_ble_eq_true rfl, Nat.le_of_ble_eq_true rfl⟩) hw hA (fun rw_10 Lw_10 fw_10 H locs hpost hw => ?_)
  obtain ⟨er_10, eL_10, hro_10, hfr_10⟩ := hpost
  subst er_10
  obtain rfl := eL_10.symm
  have hq := hq.ride hk1 hro_10 hfr_10
  exact vx_ret (wy_iW hx hb hr hlocks dX1_drive_45 hw (Nat.le_of_ble_eq_true rfl) (Nat.le_of_ble_eq_true rfl) ⟨by simp [dvC, hok1, hrg_2, hrg_4, hfin], rfl, _, _, hq⟩)
set_option maxHeartbeats 4000000 in
set_option maxRecDepth 100000 in
theorem m_X1_finish (l : Launch) (hnt : l.stackTraces = false) {G : wy_G} {L : List Nat} {f : Nat → va_E} {sz : Nat} {ox lo : Nat} {ra ar : Nat → Nat} {n : Nat} {km mn : Int32} {wk : Nat} {po : Nat → Int32} {rr : Nat → wr_V} (hq : wx_S G L f ox lo ra ar n km mn wk po rr) (p1 : Int32) : vx_Met l yX1_finish wsX1_finish ({ frames := 7, cells := 2, slots := 12, locals := 103 } : Room) (va_Pc [.ref ox, .int p1] (wt_P G L f sz)) (wy_Q G (wx_p G ox lo n km mn wk po (va_up rr (ix p1) (vEnd (rr (ix p1)))) (some (.int (bx_sum (endc (rbk (rr (ix p1))) (rch (rr (ix p1))) 10) 10))) (fnC n p1 (rfi (rr (ix p1))))) (wy_A L sz)) (wt_X G (px2 (fnC n p1 (rfi (rr (ix p1))))) L f (wy_A L sz)) 2 12 (wy_A L sz) := by
  refine vx_ofW (cc := cX1_finish) (maxL := 3) (ret := (some .int)) (by decide) rfl ?_
  intro p e s m args below meth c s₁ B hml htab hv
  obtain ⟨rfl, hv, hE⟩ := hv
  obtain ⟨hw, hK, hA⟩ := wy_start hv
  have hsz := hv.1
  subst hsz
  have hx := B.exec
  have hb := B.bytes
  have hr := B.returns
  have hts := atoms_spec (ws := wsX1_finish) B.pre
  have hown : s.vm.findClass RX1 = some m.cls := findClass_of_methodNamed B.named
  have hlocks := B.notSynchronized
  obtain ⟨md, he, cap, gg, hL1, -⟩ := id hq.2.1
  have hn : n ≤ 40 := hq.2.2.2.2.1
  have hwk : wk ≤ 20 := hq.2.2.2.2.2.1
  have hl := lv_entry ([.ref ox, .int p1]) (n := 3) (Nat.le_of_ble_eq_true rfl)
  rw [lg_entry_eq]
  generalize (lg_sl ([.ref ox, .int p1]) ++ List.replicate (3 - (lg_sl ([.ref ox, .int p1])).length) Slot.unset).toArray = ls at hl ⊢
  have hl : lv_has ls 3 [(0, .ref ox), (1, .int p1)] := hl
  refine lv_aload_n hx hb dX1_finish_0 rfl (lv_at hl 0 rfl) ?_
  refine lv_iload_n hx hb dX1_finish_1 rfl (lv_at hl 1 rfl) ?_
  refine wt_call (fun E h => Or.inl ⟨h.1, by simp [fnC, h.2]⟩) (vx_runV (As := [.int p1]) (rest := []) ⟨hx, hb, hml, hown, hts⟩ (m_X1_existingRide l hnt hq (p1)) (cwV 1 hts gX1_finish_X1_existingRide rfl rfl rfl (by decide +kernel) ⟨Nat.le_of_ble_eq_true rfl, Nat.le_of_ble_eq_true rfl⟩) (wt_pV hK hE hw hA hq.1 rfl) rfl rfl hl.1 rfl (lv_room (Nat.le_of_ble_eq_true rfl)) dX1_finish_2 ⟨Nat.le_of_ble_eq_true rfl, Nat.le_of_ble_eq_true rfl⟩) hw hA htab hlocks (Nat.le_of_ble_eq_true rfl) (Nat.le_of_ble_eq_true rfl) (fun rw_1 Lw_1 fw_1 H locs hpost hw => ?_)
  obtain ⟨er_1, eL_1, ef_1, hok1⟩ := hpost
  subst er_1
  obtain rfl := eL_1.symm
  obtain rfl := ef_1.symm
  obtain ⟨hk1, e1⟩ := okN_ix hok1 (by omega)
  refine lv_astore_n (lv' := [(2, .ref (ra (ix p1))), (0, .ref ox), (1, .int p1)]) hx hb dX1_finish_5 rfl hl (by decide) rfl (fun ls hl => ?_)
  refine lv_aload_n hx hb dX1_finish_6 rfl (lv_at hl 0 rfl) ?_
  refine wt_call (fun E h => Or.inr ⟨h.1, by simp [fnC, hok1, h.2]⟩) (vx_runS (As := [.ref (ra (ix p1))]) (rest := []) ⟨hx, hb, hml, hown, hts⟩ (m_X1_checkUnderWay l hnt (hq.2.2.2.1 (ix p1) (by omega))) (va_cwS 1 hts gX1_finish_X1_checkUnderWay rfl rfl rfl (by decide +kernel) ⟨Nat.le_of_ble_eq_true rfl, Nat.le_of_ble_eq_true rfl⟩) (wt_pS hK hE hw hA) rfl rfl hl.1 rfl (lv_room (Nat.le_of_ble_eq_true rfl)) dX1_finish_7 ⟨Nat.le_of_ble_eq_true rfl, Nat.le_of_ble_eq_true rfl⟩) hw hA htab hlocks (Nat.le_of_ble_eq_true rfl) (Nat.le_of_ble_eq_true rfl) (fun rw_2 Lw_2 fw_2 H locs hpost hw => ?_)
  obtain ⟨er_2, eL_2, ef_2, hfin⟩ := hpost
  subst er_2
  obtain rfl := eL_2.symm
  obtain rfl := ef_2.symm
  refine lv_aload_n hx hb dX1_finish_10 rfl (lv_at hl 0 rfl) ?_
  refine wy_call (va_runV (As := []) (rest := []) ⟨hx, hb, hml, hown, hts⟩ (m_X0_end l (hq.2.2.2.1 (ix p1) (by omega))) (cwV 0 hts gX1_finish_X0_end rfl rfl rfl (by decide +kernel) ⟨Nat.le_of_ble_eq_true rfl, Nat.le_of_ble_eq_true rfl⟩) (wy_pVW hK hw (hq.2.2.2.1 (ix p1) (by omega)).1 rfl) rfl rfl hl.1 rfl (lv_room (Nat.le_of_ble_eq_true rfl)) dX1_finish_11 ⟨Nat.le_of_ble_eq_true rfl, Nat.le_of_ble_eq_true rfl⟩) hw hA (fun rw_3 Lw_3 fw_3 H locs hpost hw => ?_)
  obtain ⟨er_3, eL_3, hro_3, hfr_3⟩ := hpost
  subst er_3
  obtain rfl := eL_3.symm
  have hq := hq.ride hk1 hro_3 hfr_3
  refine lv_aload_n hx hb dX1_finish_14 rfl (lv_at hl 0 rfl) ?_
  refine vp_callSi (W.runV (As := []) (rest := []) ⟨hx, hb, hml, hown, hts⟩ (m_X0_allCharges l hro_3) (cwV 0 hts gX1_finish_X0_allCharges rfl rfl rfl (by decide +kernel) ⟨Nat.le_of_ble_eq_true rfl, Nat.le_of_ble_eq_true rfl⟩) (wy_pVR hK hw.1 hro_3.1 rfl) rfl rfl hl.1 rfl (lv_room (Nat.le_of_ble_eq_true rfl)) dX1_finish_15 ⟨Nat.le_of_ble_eq_true rfl, Nat.le_of_ble_eq_true rfl⟩) (fun r_4 er_4 => ?_)
  exact vx_ret (wy_iW hx hb hr hlocks dX1_finish_18 hw (Nat.le_of_ble_eq_true rfl) (Nat.le_of_ble_eq_true rfl) ⟨by simp [fnC, hok1, hfin], by rw [er_4]; rfl, _, _, hq⟩)
set_option maxHeartbeats 4000000 in
set_option maxRecDepth 100000 in
theorem m_X1_aboard (l : Launch) (hnt : l.stackTraces = false) {G : wy_G} {L : List Nat} {f : Nat → va_E} {sz : Nat} {ox lo : Nat} {ra ar : Nat → Nat} {n : Nat} {km mn : Int32} {wk : Nat} {po : Nat → Int32} {rr : Nat → wr_V} (hq : wx_S G L f ox lo ra ar n km mn wk po rr) (p1 : Int32) : vx_Met l yX1_aboard wsX1_aboard ({ frames := 7, cells := 1, slots := 6, locals := 103 } : Room) (va_Pc [.ref ox, .int p1] (wt_P G L f sz)) (wy_Q G (wx_p G ox lo n km mn wk po (rr) (some (.int (mks (rsd (rr (ix p1)))))) (okC n p1)) (wy_A L sz)) (wt_X G (pxI (okC n p1)) L f (wy_A L sz)) 1 6 (wy_A L sz) := by
  refine vx_ofW (cc := cX1_aboard) (maxL := 2) (ret := (some .int)) (by decide) rfl ?_
  intro p e s m args below meth c s₁ B hml htab hv
  obtain ⟨rfl, hv, hE⟩ := hv
  obtain ⟨hw, hK, hA⟩ := wy_start hv
  have hsz := hv.1
  subst hsz
  have hx := B.exec
  have hb := B.bytes
  have hr := B.returns
  have hts := atoms_spec (ws := wsX1_aboard) B.pre
  have hown : s.vm.findClass RX1 = some m.cls := findClass_of_methodNamed B.named
  have hlocks := B.notSynchronized
  obtain ⟨md, he, cap, gg, hL1, -⟩ := id hq.2.1
  have hn : n ≤ 40 := hq.2.2.2.2.1
  have hwk : wk ≤ 20 := hq.2.2.2.2.2.1
  have hl := lv_entry ([.ref ox, .int p1]) (n := 2) (Nat.le_of_ble_eq_true rfl)
  rw [lg_entry_eq]
  generalize (lg_sl ([.ref ox, .int p1]) ++ List.replicate (2 - (lg_sl ([.ref ox, .int p1])).length) Slot.unset).toArray = ls at hl ⊢
  have hl : lv_has ls 2 [(0, .ref ox), (1, .int p1)] := hl
  refine lv_aload_n hx hb dX1_aboard_0 rfl (lv_at hl 0 rfl) ?_
  refine lv_iload_n hx hb dX1_aboard_1 rfl (lv_at hl 1 rfl) ?_
  refine wt_call (fun E h => ⟨h.1, by simp [okC, h.2]⟩) (vx_runV (As := [.int p1]) (rest := []) ⟨hx, hb, hml, hown, hts⟩ (m_X1_existingRide l hnt hq (p1)) (cwV 1 hts gX1_aboard_X1_existingRide rfl rfl rfl (by decide +kernel) ⟨Nat.le_of_ble_eq_true rfl, Nat.le_of_ble_eq_true rfl⟩) (wt_pV hK hE hw hA hq.1 rfl) rfl rfl hl.1 rfl (lv_room (Nat.le_of_ble_eq_true rfl)) dX1_aboard_2 ⟨Nat.le_of_ble_eq_true rfl, Nat.le_of_ble_eq_true rfl⟩) hw hA htab hlocks (Nat.le_of_ble_eq_true rfl) (Nat.le_of_ble_eq_true rfl) (fun rw_1 Lw_1 fw_1 H locs hpost hw => ?_)
  obtain ⟨er_1, eL_1, ef_1, hok1⟩ := hpost
  subst er_1
  obtain rfl := eL_1.symm
  obtain rfl := ef_1.symm
  obtain ⟨hk1, e1⟩ := okN_ix hok1 (by omega)
  refine vp_callSi (W.runV (As := []) (rest := []) ⟨hx, hb, hml, hown, hts⟩ (m_X0_ridersAboard l (hq.2.2.2.1 (ix p1) (by omega))) (cwV 0 hts gX1_aboard_X0_ridersAboard rfl rfl rfl (by decide +kernel) ⟨Nat.le_of_ble_eq_true rfl, Nat.le_of_ble_eq_true rfl⟩) (wy_pVR hK hw.1 (hq.2.2.2.1 (ix p1) (by omega)).1 rfl) rfl rfl hl.1 rfl (lv_room (Nat.le_of_ble_eq_true rfl)) dX1_aboard_5 ⟨Nat.le_of_ble_eq_true rfl, Nat.le_of_ble_eq_true rfl⟩) (fun r_2 er_2 => ?_)
  exact vx_ret (wy_iW hx hb hr hlocks dX1_aboard_8 hw (Nat.le_of_ble_eq_true rfl) (Nat.le_of_ble_eq_true rfl) ⟨by simp [okC, hok1], by rw [er_2], _, _, hq⟩)
set_option maxHeartbeats 4000000 in
set_option maxRecDepth 100000 in
theorem m_X1_charge (l : Launch) (hnt : l.stackTraces = false) {G : wy_G} {L : List Nat} {f : Nat → va_E} {sz : Nat} {ox lo : Nat} {ra ar : Nat → Nat} {n : Nat} {km mn : Int32} {wk : Nat} {po : Nat → Int32} {rr : Nat → wr_V} (hq : wx_S G L f ox lo ra ar n km mn wk po rr) (p1 p2 : Int32) : vx_Met l yX1_charge wsX1_charge ({ frames := 7, cells := 2, slots := 12, locals := 103 } : Room) (va_Pc [.ref ox, .int p1, .int p2] (wt_P G L f sz)) (wy_Q G (wx_p G ox lo n km mn wk po (rr) (some (.int (rch (rr (ix p1)) (ix p2)))) (ok2C n p1 p2)) (wy_A L sz)) (wt_X G (pxI (ok2C n p1 p2)) L f (wy_A L sz)) 2 12 (wy_A L sz) := by
  refine vx_ofW (cc := cX1_charge) (maxL := 4) (ret := (some .int)) (by decide) rfl ?_
  intro p e s m args below meth c s₁ B hml htab hv
  obtain ⟨rfl, hv, hE⟩ := hv
  obtain ⟨hw, hK, hA⟩ := wy_start hv
  have hsz := hv.1
  subst hsz
  have hx := B.exec
  have hb := B.bytes
  have hr := B.returns
  have hts := atoms_spec (ws := wsX1_charge) B.pre
  have hown : s.vm.findClass RX1 = some m.cls := findClass_of_methodNamed B.named
  have hlocks := B.notSynchronized
  obtain ⟨md, he, cap, gg, hL1, -⟩ := id hq.2.1
  have hn : n ≤ 40 := hq.2.2.2.2.1
  have hwk : wk ≤ 20 := hq.2.2.2.2.2.1
  have hl := lv_entry ([.ref ox, .int p1, .int p2]) (n := 4) (Nat.le_of_ble_eq_true rfl)
  rw [lg_entry_eq]
  generalize (lg_sl ([.ref ox, .int p1, .int p2]) ++ List.replicate (4 - (lg_sl ([.ref ox, .int p1, .int p2])).length) Slot.unset).toArray = ls at hl ⊢
  have hl : lv_has ls 4 [(0, .ref ox), (1, .int p1), (2, .int p2)] := hl
  refine lv_aload_n hx hb dX1_charge_0 rfl (lv_at hl 0 rfl) ?_
  refine lv_iload_n hx hb dX1_charge_1 rfl (lv_at hl 1 rfl) ?_
  refine wt_call (fun E h => ⟨h.1, by simp [ok2C, h.2]⟩) (vx_runV (As := [.int p1]) (rest := []) ⟨hx, hb, hml, hown, hts⟩ (m_X1_existingRide l hnt hq (p1)) (cwV 1 hts gX1_charge_X1_existingRide rfl rfl rfl (by decide +kernel) ⟨Nat.le_of_ble_eq_true rfl, Nat.le_of_ble_eq_true rfl⟩) (wt_pV hK hE hw hA hq.1 rfl) rfl rfl hl.1 rfl (lv_room (Nat.le_of_ble_eq_true rfl)) dX1_charge_2 ⟨Nat.le_of_ble_eq_true rfl, Nat.le_of_ble_eq_true rfl⟩) hw hA htab hlocks (Nat.le_of_ble_eq_true rfl) (Nat.le_of_ble_eq_true rfl) (fun rw_1 Lw_1 fw_1 H locs hpost hw => ?_)
  obtain ⟨er_1, eL_1, ef_1, hok1⟩ := hpost
  subst er_1
  obtain rfl := eL_1.symm
  obtain rfl := ef_1.symm
  obtain ⟨hk1, e1⟩ := okN_ix hok1 (by omega)
  refine lv_astore_n (lv' := [(3, .ref (ra (ix p1))), (0, .ref ox), (1, .int p1), (2, .int p2)]) hx hb dX1_charge_5 rfl hl (by decide) rfl (fun ls hl => ?_)
  refine lv_iload_n hx hb dX1_charge_6 rfl (lv_at hl 3 rfl) ?_
  refine wt_call (fun E h => ⟨h.1, by simp [ok2C, hok1, h.2]⟩) (vx_runS (As := [.int p2]) (rest := []) ⟨hx, hb, hml, hown, hts⟩ (m_X1_checkRider l hnt (G := G) (L := L) (f := f) (p2)) (va_cwS 1 hts gX1_charge_X1_checkRider rfl rfl rfl (by decide +kernel) ⟨Nat.le_of_ble_eq_true rfl, Nat.le_of_ble_eq_true rfl⟩) (wt_pS hK hE hw hA) rfl rfl hl.1 rfl (lv_room (Nat.le_of_ble_eq_true rfl)) dX1_charge_7 ⟨Nat.le_of_ble_eq_true rfl, Nat.le_of_ble_eq_true rfl⟩) hw hA htab hlocks (Nat.le_of_ble_eq_true rfl) (Nat.le_of_ble_eq_true rfl) (fun rw_2 Lw_2 fw_2 H locs hpost hw => ?_)
  obtain ⟨er_2, eL_2, ef_2, hok2⟩ := hpost
  subst er_2
  obtain rfl := eL_2.symm
  obtain rfl := ef_2.symm
  obtain ⟨hr10, e2⟩ := okN_ix hok2 (by omega)
  refine lv_aload_n hx hb dX1_charge_10 rfl (lv_at hl 0 rfl) ?_
  refine lv_iload_n hx hb dX1_charge_11 rfl (lv_at hl 3 rfl) ?_
  refine vp_callSi (W.runV (As := [.int p2]) (rest := []) ⟨hx, hb, hml, hown, hts⟩ (m_X0_chargeOf l (hq.2.2.2.1 (ix p1) (by omega)) (p2) ((ix p2)) (by omega) e2) (cwV 1 hts gX1_charge_X0_chargeOf rfl rfl rfl (by decide +kernel) ⟨Nat.le_of_ble_eq_true rfl, Nat.le_of_ble_eq_true rfl⟩) (wy_pVR hK hw.1 (hq.2.2.2.1 (ix p1) (by omega)).1 rfl) rfl rfl hl.1 rfl (lv_room (Nat.le_of_ble_eq_true rfl)) dX1_charge_12 ⟨Nat.le_of_ble_eq_true rfl, Nat.le_of_ble_eq_true rfl⟩) (fun r_3 er_3 => ?_)
  exact vx_ret (wy_iW hx hb hr hlocks dX1_charge_15 hw (Nat.le_of_ble_eq_true rfl) (Nat.le_of_ble_eq_true rfl) ⟨by simp [ok2C, hok1, hok2], by rw [er_3], _, _, hq⟩)
set_option maxHeartbeats 4000000 in
set_option maxRecDepth 100000 in
theorem m_X1_isVoid (l : Launch) (hnt : l.stackTraces = false) {G : wy_G} {L : List Nat} {f : Nat → va_E} {sz : Nat} {ox lo : Nat} {ra ar : Nat → Nat} {n : Nat} {km mn : Int32} {wk : Nat} {po : Nat → Int32} {rr : Nat → wr_V} (hq : wx_S G L f ox lo ra ar n km mn wk po rr) (p1 : Int32) : vx_Met l yX1_isVoid wsX1_isVoid ({ frames := 7, cells := 1, slots := 6, locals := 103 } : Room) (va_Pc [.ref ox, .int p1] (wt_P G L f sz)) (wy_Q G (wx_p G ox lo n km mn wk po (rr) (some (.int (bI (voidR (rr (ix p1)))))) (okC n p1)) (wy_A L sz)) (wt_X G (pxI (okC n p1)) L f (wy_A L sz)) 1 6 (wy_A L sz) := by
  refine vx_ofW (cc := cX1_isVoid) (maxL := 2) (ret := (some .boolean)) (by decide) rfl ?_
  intro p e s m args below meth c s₁ B hml htab hv
  obtain ⟨rfl, hv, hE⟩ := hv
  obtain ⟨hw, hK, hA⟩ := wy_start hv
  have hsz := hv.1
  subst hsz
  have hx := B.exec
  have hb := B.bytes
  have hr := B.returns
  have hts := atoms_spec (ws := wsX1_isVoid) B.pre
  have hown : s.vm.findClass RX1 = some m.cls := findClass_of_methodNamed B.named
  have hlocks := B.notSynchronized
  obtain ⟨md, he, cap, gg, hL1, -⟩ := id hq.2.1
  have hn : n ≤ 40 := hq.2.2.2.2.1
  have hwk : wk ≤ 20 := hq.2.2.2.2.2.1
  have hl := lv_entry ([.ref ox, .int p1]) (n := 2) (Nat.le_of_ble_eq_true rfl)
  rw [lg_entry_eq]
  generalize (lg_sl ([.ref ox, .int p1]) ++ List.replicate (2 - (lg_sl ([.ref ox, .int p1])).length) Slot.unset).toArray = ls at hl ⊢
  have hl : lv_has ls 2 [(0, .ref ox), (1, .int p1)] := hl
  refine lv_aload_n hx hb dX1_isVoid_0 rfl (lv_at hl 0 rfl) ?_
  refine lv_iload_n hx hb dX1_isVoid_1 rfl (lv_at hl 1 rfl) ?_
  refine wt_call (fun E h => ⟨h.1, by simp [okC, h.2]⟩) (vx_runV (As := [.int p1]) (rest := []) ⟨hx, hb, hml, hown, hts⟩ (m_X1_existingRide l hnt hq (p1)) (cwV 1 hts gX1_isVoid_X1_existingRide rfl rfl rfl (by decide +kernel) ⟨Nat.le_of_ble_eq_true rfl, Nat.le_of_ble_eq_true rfl⟩) (wt_pV hK hE hw hA hq.1 rfl) rfl rfl hl.1 rfl (lv_room (Nat.le_of_ble_eq_true rfl)) dX1_isVoid_2 ⟨Nat.le_of_ble_eq_true rfl, Nat.le_of_ble_eq_true rfl⟩) hw hA htab hlocks (Nat.le_of_ble_eq_true rfl) (Nat.le_of_ble_eq_true rfl) (fun rw_1 Lw_1 fw_1 H locs hpost hw => ?_)
  obtain ⟨er_1, eL_1, ef_1, hok1⟩ := hpost
  subst er_1
  obtain rfl := eL_1.symm
  obtain rfl := ef_1.symm
  obtain ⟨hk1, e1⟩ := okN_ix hok1 (by omega)
  refine vp_callSi (W.runV (As := []) (rest := []) ⟨hx, hb, hml, hown, hts⟩ (m_X0_countsAsVoid l (hq.2.2.2.1 (ix p1) (by omega))) (cwV 0 hts gX1_isVoid_X0_countsAsVoid rfl rfl rfl (by decide +kernel) ⟨Nat.le_of_ble_eq_true rfl, Nat.le_of_ble_eq_true rfl⟩) (wy_pVR hK hw.1 (hq.2.2.2.1 (ix p1) (by omega)).1 rfl) rfl rfl hl.1 rfl (lv_room (Nat.le_of_ble_eq_true rfl)) dX1_isVoid_5 ⟨Nat.le_of_ble_eq_true rfl, Nat.le_of_ble_eq_true rfl⟩) (fun r_2 er_2 => ?_)
  exact vx_ret (wy_zW er_2 hx hb hr hlocks dX1_isVoid_8 hw (Nat.le_of_ble_eq_true rfl) (Nat.le_of_ble_eq_true rfl) ⟨by simp [okC, hok1], rfl, _, _, hq⟩)
set_option maxHeartbeats 4000000 in
set_option maxRecDepth 100000 in
theorem m_X1_earnings (l : Launch) (hnt : l.stackTraces = false) {G : wy_G} {L : List Nat} {f : Nat → va_E} {sz : Nat} {ox lo : Nat} {ra ar : Nat → Nat} {n : Nat} {km mn : Int32} {wk : Nat} {po : Nat → Int32} {rr : Nat → wr_V} (hq : wx_S G L f ox lo ra ar n km mn wk po rr) (p1 p2 : Int32) : vx_Met l yX1_earnings wsX1_earnings ({ frames := 7, cells := 2, slots := 12, locals := 104 } : Room) (va_Pc [.ref ox, .int p1, .int p2] (wt_P G L f sz)) (wy_Q G (wx_p G ox lo n km mn wk po (rr) (some (.int (earnS rr n p1 p2))) (ewC wk p1 p2)) (wy_A L sz)) (wt_X G (pxIA (ewC wk p1 p2)) L f (wy_A L sz)) 2 12 (wy_A L sz) := by
  refine vx_ofW (cc := cX1_earnings) (maxL := 3) (ret := (some .int)) (by decide) rfl ?_
  intro p e s m args below meth c s₁ B hml htab hv
  obtain ⟨rfl, hv, hE⟩ := hv
  obtain ⟨hw, hK, hA⟩ := wy_start hv
  have hsz := hv.1
  subst hsz
  have hx := B.exec
  have hb := B.bytes
  have hr := B.returns
  have hts := atoms_spec (ws := wsX1_earnings) B.pre
  have hown : s.vm.findClass RX1 = some m.cls := findClass_of_methodNamed B.named
  have hlocks := B.notSynchronized
  have hinX1 : ∀ w ∈ wsX10, w ∈ wsX1_earnings := by decide +kernel
  obtain ⟨md, he, cap, gg, hL1, -⟩ := id hq.2.1
  have hn : n ≤ 40 := hq.2.2.2.2.1
  have hwk : wk ≤ 20 := hq.2.2.2.2.2.1
  have hl := lv_entry ([.ref ox, .int p1, .int p2]) (n := 3) (Nat.le_of_ble_eq_true rfl)
  rw [lg_entry_eq]
  generalize (lg_sl ([.ref ox, .int p1, .int p2]) ++ List.replicate (3 - (lg_sl ([.ref ox, .int p1, .int p2])).length) Slot.unset).toArray = ls at hl ⊢
  have hl : lv_has ls 3 [(0, .ref ox), (1, .int p1), (2, .int p2)] := hl
  refine lv_iload_n hx hb dX1_earnings_0 rfl (lv_at hl 1 rfl) ?_
  refine wt_call (fun E h => Or.inl ⟨h.1, by simp [ewC, h.2]⟩) (vx_runS (As := [.int p1]) (rest := []) ⟨hx, hb, hml, hown, hts⟩ (m_X1_checkDriver l hnt (G := G) (L := L) (f := f) (p1)) (va_cwS 1 hts gX1_earnings_X1_checkDriver rfl rfl rfl (by decide +kernel) ⟨Nat.le_of_ble_eq_true rfl, Nat.le_of_ble_eq_true rfl⟩) (wt_pS hK hE hw hA) rfl rfl hl.1 rfl (lv_room (Nat.le_of_ble_eq_true rfl)) dX1_earnings_1 ⟨Nat.le_of_ble_eq_true rfl, Nat.le_of_ble_eq_true rfl⟩) hw hA htab hlocks (Nat.le_of_ble_eq_true rfl) (Nat.le_of_ble_eq_true rfl) (fun rw_1 Lw_1 fw_1 H locs hpost hw => ?_)
  obtain ⟨er_1, eL_1, ef_1, hok5⟩ := hpost
  subst er_1
  obtain rfl := eL_1.symm
  obtain rfl := ef_1.symm
  obtain ⟨hk5, e1⟩ := okN_ix hok5 (by omega)
  refine lv_iload_n hx hb dX1_earnings_4 rfl (lv_at hl 2 rfl) ?_
  refine lv_iconst (v := 0) hx hb dX1_earnings_5 (by decide) ?_
  refine lv_aload_n hx hb dX1_earnings_6 rfl (lv_at hl 0 rfl) ?_
  refine wy_get (ci := 2) (v := .int (nI wk)) (C := RX1) (T := TX1) (N := 5) hx hb hts hinX1 hown hK hw.1 hq.1 rfl 4 (by decide) (hts (.fieldLink RX1 27 "Wheelpay" "presentWeek" "I") (by decide +kernel)) (fun _ h9 => h9) rfl dX1_earnings_7 ?_
  refine wt_call (fun E h => Or.inr ⟨h.1, by simp [ewC, hok5, h.2]⟩) (vx_runS (As := [.int p2, .int 0, .int (nI wk)]) (rest := []) ⟨hx, hb, hml, hown, hts⟩ (m_X1_checkRange l hnt (G := G) (L := L) (f := f) (p2) (0) (nI wk)) (va_cwS 3 hts gX1_earnings_X1_checkRange rfl rfl rfl (by decide +kernel) ⟨Nat.le_of_ble_eq_true rfl, Nat.le_of_ble_eq_true rfl⟩) (wt_pS hK hE hw hA) rfl rfl hl.1 rfl (lv_room (Nat.le_of_ble_eq_true rfl)) dX1_earnings_10 ⟨Nat.le_of_ble_eq_true rfl, Nat.le_of_ble_eq_true rfl⟩) hw hA htab hlocks (Nat.le_of_ble_eq_true rfl) (Nat.le_of_ble_eq_true rfl) (fun rw_3 Lw_3 fw_3 H locs hpost hw => ?_)
  obtain ⟨er_3, eL_3, ef_3, hrg_2⟩ := hpost
  subst er_3
  obtain rfl := eL_3.symm
  obtain rfl := ef_3.symm
  refine lv_aload_n hx hb dX1_earnings_13 rfl (lv_at hl 0 rfl) ?_
  refine lv_iload_n hx hb dX1_earnings_14 rfl (lv_at hl 1 rfl) ?_
  refine lv_iload_n hx hb dX1_earnings_15 rfl (lv_at hl 2 rfl) ?_
  refine vp_callSi (W.runV (As := [.int p1, .int p2]) (rest := []) ⟨hx, hb, hml, hown, hts⟩ (m_X1_earningsFor l hq (p1) (p2)) (cwV 2 hts gX1_earnings_X1_earningsFor rfl rfl rfl (by decide +kernel) ⟨Nat.le_of_ble_eq_true rfl, Nat.le_of_ble_eq_true rfl⟩) (wy_pVR hK hw.1 hq.1 rfl) rfl rfl hl.1 rfl (lv_room (Nat.le_of_ble_eq_true rfl)) dX1_earnings_16 ⟨Nat.le_of_ble_eq_true rfl, Nat.le_of_ble_eq_true rfl⟩) (fun r_4 er_4 => ?_)
  exact vx_ret (wy_iW hx hb hr hlocks dX1_earnings_19 hw (Nat.le_of_ble_eq_true rfl) (Nat.le_of_ble_eq_true rfl) ⟨by simp [ewC, hok5, hrg_2], by rw [er_4], _, _, hq⟩)
set_option maxHeartbeats 4000000 in
set_option maxRecDepth 100000 in
theorem m_X1_topUp (l : Launch) (hnt : l.stackTraces = false) {G : wy_G} {L : List Nat} {f : Nat → va_E} {sz : Nat} {ox lo : Nat} {ra ar : Nat → Nat} {n : Nat} {km mn : Int32} {wk : Nat} {po : Nat → Int32} {rr : Nat → wr_V} (hq : wx_S G L f ox lo ra ar n km mn wk po rr) (p1 p2 : Int32) : vx_Met l yX1_topUp wsX1_topUp ({ frames := 7, cells := 2, slots := 12, locals := 112 } : Room) (va_Pc [.ref ox, .int p1, .int p2] (wt_P G L f sz)) (wy_Q G (wx_p G ox lo n km mn wk po (rr) (some (.int (topS rr n p1 p2))) (ewC wk p1 p2)) (wy_A L sz)) (wt_X G (pxIA (ewC wk p1 p2)) L f (wy_A L sz)) 2 12 (wy_A L sz) := by
  refine vx_ofW (cc := cX1_topUp) (maxL := 3) (ret := (some .int)) (by decide) rfl ?_
  intro p e s m args below meth c s₁ B hml htab hv
  obtain ⟨rfl, hv, hE⟩ := hv
  obtain ⟨hw, hK, hA⟩ := wy_start hv
  have hsz := hv.1
  subst hsz
  have hx := B.exec
  have hb := B.bytes
  have hr := B.returns
  have hts := atoms_spec (ws := wsX1_topUp) B.pre
  have hown : s.vm.findClass RX1 = some m.cls := findClass_of_methodNamed B.named
  have hlocks := B.notSynchronized
  have hinX1 : ∀ w ∈ wsX10, w ∈ wsX1_topUp := by decide +kernel
  obtain ⟨md, he, cap, gg, hL1, -⟩ := id hq.2.1
  have hn : n ≤ 40 := hq.2.2.2.2.1
  have hwk : wk ≤ 20 := hq.2.2.2.2.2.1
  have hl := lv_entry ([.ref ox, .int p1, .int p2]) (n := 3) (Nat.le_of_ble_eq_true rfl)
  rw [lg_entry_eq]
  generalize (lg_sl ([.ref ox, .int p1, .int p2]) ++ List.replicate (3 - (lg_sl ([.ref ox, .int p1, .int p2])).length) Slot.unset).toArray = ls at hl ⊢
  have hl : lv_has ls 3 [(0, .ref ox), (1, .int p1), (2, .int p2)] := hl
  refine lv_iload_n hx hb dX1_topUp_0 rfl (lv_at hl 1 rfl) ?_
  refine wt_call (fun E h => Or.inl ⟨h.1, by simp [ewC, h.2]⟩) (vx_runS (As := [.int p1]) (rest := []) ⟨hx, hb, hml, hown, hts⟩ (m_X1_checkDriver l hnt (G := G) (L := L) (f := f) (p1)) (va_cwS 1 hts gX1_topUp_X1_checkDriver rfl rfl rfl (by decide +kernel) ⟨Nat.le_of_ble_eq_true rfl, Nat.le_of_ble_eq_true rfl⟩) (wt_pS hK hE hw hA) rfl rfl hl.1 rfl (lv_room (Nat.le_of_ble_eq_true rfl)) dX1_topUp_1 ⟨Nat.le_of_ble_eq_true rfl, Nat.le_of_ble_eq_true rfl⟩) hw hA htab hlocks (Nat.le_of_ble_eq_true rfl) (Nat.le_of_ble_eq_true rfl) (fun rw_1 Lw_1 fw_1 H locs hpost hw => ?_)
  obtain ⟨er_1, eL_1, ef_1, hok5⟩ := hpost
  subst er_1
  obtain rfl := eL_1.symm
  obtain rfl := ef_1.symm
  obtain ⟨hk5, e1⟩ := okN_ix hok5 (by omega)
  refine lv_iload_n hx hb dX1_topUp_4 rfl (lv_at hl 2 rfl) ?_
  refine lv_iconst (v := 0) hx hb dX1_topUp_5 (by decide) ?_
  refine lv_aload_n hx hb dX1_topUp_6 rfl (lv_at hl 0 rfl) ?_
  refine wy_get (ci := 2) (v := .int (nI wk)) (C := RX1) (T := TX1) (N := 5) hx hb hts hinX1 hown hK hw.1 hq.1 rfl 4 (by decide) (hts (.fieldLink RX1 27 "Wheelpay" "presentWeek" "I") (by decide +kernel)) (fun _ h9 => h9) rfl dX1_topUp_7 ?_
  refine wt_call (fun E h => Or.inr ⟨h.1, by simp [ewC, hok5, h.2]⟩) (vx_runS (As := [.int p2, .int 0, .int (nI wk)]) (rest := []) ⟨hx, hb, hml, hown, hts⟩ (m_X1_checkRange l hnt (G := G) (L := L) (f := f) (p2) (0) (nI wk)) (va_cwS 3 hts gX1_topUp_X1_checkRange rfl rfl rfl (by decide +kernel) ⟨Nat.le_of_ble_eq_true rfl, Nat.le_of_ble_eq_true rfl⟩) (wt_pS hK hE hw hA) rfl rfl hl.1 rfl (lv_room (Nat.le_of_ble_eq_true rfl)) dX1_topUp_10 ⟨Nat.le_of_ble_eq_true rfl, Nat.le_of_ble_eq_true rfl⟩) hw hA htab hlocks (Nat.le_of_ble_eq_true rfl) (Nat.le_of_ble_eq_true rfl) (fun rw_3 Lw_3 fw_3 H locs hpost hw => ?_)
  obtain ⟨er_3, eL_3, ef_3, hrg_2⟩ := hpost
  subst er_3
  obtain rfl := eL_3.symm
  obtain rfl := ef_3.symm
  refine lv_aload_n hx hb dX1_topUp_13 rfl (lv_at hl 0 rfl) ?_
  refine lv_aload_n hx hb dX1_topUp_14 rfl (lv_at hl 0 rfl) ?_
  refine lv_iload_n hx hb dX1_topUp_15 rfl (lv_at hl 1 rfl) ?_
  refine lv_iload_n hx hb dX1_topUp_16 rfl (lv_at hl 2 rfl) ?_
  refine vp_callSi (W.runV (As := [.int p1, .int p2]) (rest := [.ref ox]) ⟨hx, hb, hml, hown, hts⟩ (m_X1_earningsFor l hq (p1) (p2)) (cwV 2 hts gX1_topUp_X1_earningsFor rfl rfl rfl (by decide +kernel) ⟨Nat.le_of_ble_eq_true rfl, Nat.le_of_ble_eq_true rfl⟩) (wy_pVR hK hw.1 hq.1 rfl) rfl rfl hl.1 rfl (lv_room (Nat.le_of_ble_eq_true rfl)) dX1_topUp_17 ⟨Nat.le_of_ble_eq_true rfl, Nat.le_of_ble_eq_true rfl⟩) (fun r_4 er_4 => ?_)
  refine lv_iload_n hx hb dX1_topUp_20 rfl (lv_at hl 1 rfl) ?_
  refine lv_iload_n hx hb dX1_topUp_21 rfl (lv_at hl 2 rfl) ?_
  refine vp_callSi (W.runV (As := [.int r_4, .int p1, .int p2]) (rest := []) ⟨hx, hb, hml, hown, hts⟩ (m_X1_topUpOn l hq (r_4) (p1) (p2) er_4) (cwV 3 hts gX1_topUp_X1_topUpOn rfl rfl rfl (by decide +kernel) ⟨Nat.le_of_ble_eq_true rfl, Nat.le_of_ble_eq_true rfl⟩) (wy_pVR hK hw.1 hq.1 rfl) rfl rfl hl.1 rfl (lv_room (Nat.le_of_ble_eq_true rfl)) dX1_topUp_22 ⟨Nat.le_of_ble_eq_true rfl, Nat.le_of_ble_eq_true rfl⟩) (fun r_5 er_5 => ?_)
  exact vx_ret (wy_iW hx hb hr hlocks dX1_topUp_25 hw (Nat.le_of_ble_eq_true rfl) (Nat.le_of_ble_eq_true rfl) ⟨by simp [ewC, hok5, hrg_2], by rw [er_5], _, _, hq⟩)
set_option maxHeartbeats 4000000 in
set_option maxRecDepth 100000 in
theorem m_X1_bonus (l : Launch) (hnt : l.stackTraces = false) {G : wy_G} {L : List Nat} {f : Nat → va_E} {sz : Nat} {ox lo : Nat} {ra ar : Nat → Nat} {n : Nat} {km mn : Int32} {wk : Nat} {po : Nat → Int32} {rr : Nat → wr_V} (hq : wx_S G L f ox lo ra ar n km mn wk po rr) (p1 p2 : Int32) : vx_Met l yX1_bonus wsX1_bonus ({ frames := 7, cells := 2, slots := 12, locals := 104 } : Room) (va_Pc [.ref ox, .int p1, .int p2] (wt_P G L f sz)) (wy_Q G (wx_p G ox lo n km mn wk po (rr) (some (.int (bonS rr n p1 p2))) (ewC wk p1 p2)) (wy_A L sz)) (wt_X G (pxIA (ewC wk p1 p2)) L f (wy_A L sz)) 2 12 (wy_A L sz) := by
  refine vx_ofW (cc := cX1_bonus) (maxL := 3) (ret := (some .int)) (by decide) rfl ?_
  intro p e s m args below meth c s₁ B hml htab hv
  obtain ⟨rfl, hv, hE⟩ := hv
  obtain ⟨hw, hK, hA⟩ := wy_start hv
  have hsz := hv.1
  subst hsz
  have hx := B.exec
  have hb := B.bytes
  have hr := B.returns
  have hts := atoms_spec (ws := wsX1_bonus) B.pre
  have hown : s.vm.findClass RX1 = some m.cls := findClass_of_methodNamed B.named
  have hlocks := B.notSynchronized
  have hinX1 : ∀ w ∈ wsX10, w ∈ wsX1_bonus := by decide +kernel
  obtain ⟨md, he, cap, gg, hL1, -⟩ := id hq.2.1
  have hn : n ≤ 40 := hq.2.2.2.2.1
  have hwk : wk ≤ 20 := hq.2.2.2.2.2.1
  have hl := lv_entry ([.ref ox, .int p1, .int p2]) (n := 3) (Nat.le_of_ble_eq_true rfl)
  rw [lg_entry_eq]
  generalize (lg_sl ([.ref ox, .int p1, .int p2]) ++ List.replicate (3 - (lg_sl ([.ref ox, .int p1, .int p2])).length) Slot.unset).toArray = ls at hl ⊢
  have hl : lv_has ls 3 [(0, .ref ox), (1, .int p1), (2, .int p2)] := hl
  refine lv_iload_n hx hb dX1_bonus_0 rfl (lv_at hl 1 rfl) ?_
  refine wt_call (fun E h => Or.inl ⟨h.1, by simp [ewC, h.2]⟩) (vx_runS (As := [.int p1]) (rest := []) ⟨hx, hb, hml, hown, hts⟩ (m_X1_checkDriver l hnt (G := G) (L := L) (f := f) (p1)) (va_cwS 1 hts gX1_bonus_X1_checkDriver rfl rfl rfl (by decide +kernel) ⟨Nat.le_of_ble_eq_true rfl, Nat.le_of_ble_eq_true rfl⟩) (wt_pS hK hE hw hA) rfl rfl hl.1 rfl (lv_room (Nat.le_of_ble_eq_true rfl)) dX1_bonus_1 ⟨Nat.le_of_ble_eq_true rfl, Nat.le_of_ble_eq_true rfl⟩) hw hA htab hlocks (Nat.le_of_ble_eq_true rfl) (Nat.le_of_ble_eq_true rfl) (fun rw_1 Lw_1 fw_1 H locs hpost hw => ?_)
  obtain ⟨er_1, eL_1, ef_1, hok5⟩ := hpost
  subst er_1
  obtain rfl := eL_1.symm
  obtain rfl := ef_1.symm
  obtain ⟨hk5, e1⟩ := okN_ix hok5 (by omega)
  refine lv_iload_n hx hb dX1_bonus_4 rfl (lv_at hl 2 rfl) ?_
  refine lv_iconst (v := 0) hx hb dX1_bonus_5 (by decide) ?_
  refine lv_aload_n hx hb dX1_bonus_6 rfl (lv_at hl 0 rfl) ?_
  refine wy_get (ci := 2) (v := .int (nI wk)) (C := RX1) (T := TX1) (N := 5) hx hb hts hinX1 hown hK hw.1 hq.1 rfl 4 (by decide) (hts (.fieldLink RX1 27 "Wheelpay" "presentWeek" "I") (by decide +kernel)) (fun _ h9 => h9) rfl dX1_bonus_7 ?_
  refine wt_call (fun E h => Or.inr ⟨h.1, by simp [ewC, hok5, h.2]⟩) (vx_runS (As := [.int p2, .int 0, .int (nI wk)]) (rest := []) ⟨hx, hb, hml, hown, hts⟩ (m_X1_checkRange l hnt (G := G) (L := L) (f := f) (p2) (0) (nI wk)) (va_cwS 3 hts gX1_bonus_X1_checkRange rfl rfl rfl (by decide +kernel) ⟨Nat.le_of_ble_eq_true rfl, Nat.le_of_ble_eq_true rfl⟩) (wt_pS hK hE hw hA) rfl rfl hl.1 rfl (lv_room (Nat.le_of_ble_eq_true rfl)) dX1_bonus_10 ⟨Nat.le_of_ble_eq_true rfl, Nat.le_of_ble_eq_true rfl⟩) hw hA htab hlocks (Nat.le_of_ble_eq_true rfl) (Nat.le_of_ble_eq_true rfl) (fun rw_3 Lw_3 fw_3 H locs hpost hw => ?_)
  obtain ⟨er_3, eL_3, ef_3, hrg_2⟩ := hpost
  subst er_3
  obtain rfl := eL_3.symm
  obtain rfl := ef_3.symm
  refine lv_aload_n hx hb dX1_bonus_13 rfl (lv_at hl 0 rfl) ?_
  refine lv_iload_n hx hb dX1_bonus_14 rfl (lv_at hl 1 rfl) ?_
  refine lv_iload_n hx hb dX1_bonus_15 rfl (lv_at hl 2 rfl) ?_
  refine vp_callSi (W.runV (As := [.int p1, .int p2]) (rest := []) ⟨hx, hb, hml, hown, hts⟩ (m_X1_bonusFor l hq (p1) (p2)) (cwV 2 hts gX1_bonus_X1_bonusFor rfl rfl rfl (by decide +kernel) ⟨Nat.le_of_ble_eq_true rfl, Nat.le_of_ble_eq_true rfl⟩) (wy_pVR hK hw.1 hq.1 rfl) rfl rfl hl.1 rfl (lv_room (Nat.le_of_ble_eq_true rfl)) dX1_bonus_16 ⟨Nat.le_of_ble_eq_true rfl, Nat.le_of_ble_eq_true rfl⟩) (fun r_4 er_4 => ?_)
  exact vx_ret (wy_iW hx hb hr hlocks dX1_bonus_19 hw (Nat.le_of_ble_eq_true rfl) (Nat.le_of_ble_eq_true rfl) ⟨by simp [ewC, hok5, hrg_2], by rw [er_4], _, _, hq⟩)
set_option maxHeartbeats 4000000 in
set_option maxRecDepth 100000 in
theorem m_X1_pay (l : Launch) (hnt : l.stackTraces = false) {G : wy_G} {L : List Nat} {f : Nat → va_E} {sz : Nat} {ox lo : Nat} {ra ar : Nat → Nat} {n : Nat} {km mn : Int32} {wk : Nat} {po : Nat → Int32} {rr : Nat → wr_V} (hq : wx_S G L f ox lo ra ar n km mn wk po rr) (p1 p2 : Int32) : vx_Met l yX1_pay wsX1_pay ({ frames := 7, cells := 2, slots := 12, locals := 135 } : Room) (va_Pc [.ref ox, .int p1, .int p2] (wt_P G L f sz)) (wy_Q G (wx_p G ox lo n km mn wk po (rr) (some (.int (payS rr n p1 p2))) (ewC wk p1 p2)) (wy_A L sz)) (wt_X G (pxIA (ewC wk p1 p2)) L f (wy_A L sz)) 2 12 (wy_A L sz) := by
  refine vx_ofW (cc := cX1_pay) (maxL := 3) (ret := (some .int)) (by decide) rfl ?_
  intro p e s m args below meth c s₁ B hml htab hv
  obtain ⟨rfl, hv, hE⟩ := hv
  obtain ⟨hw, hK, hA⟩ := wy_start hv
  have hsz := hv.1
  subst hsz
  have hx := B.exec
  have hb := B.bytes
  have hr := B.returns
  have hts := atoms_spec (ws := wsX1_pay) B.pre
  have hown : s.vm.findClass RX1 = some m.cls := findClass_of_methodNamed B.named
  have hlocks := B.notSynchronized
  have hinX1 : ∀ w ∈ wsX10, w ∈ wsX1_pay := by decide +kernel
  obtain ⟨md, he, cap, gg, hL1, -⟩ := id hq.2.1
  have hn : n ≤ 40 := hq.2.2.2.2.1
  have hwk : wk ≤ 20 := hq.2.2.2.2.2.1
  have hl := lv_entry ([.ref ox, .int p1, .int p2]) (n := 3) (Nat.le_of_ble_eq_true rfl)
  rw [lg_entry_eq]
  generalize (lg_sl ([.ref ox, .int p1, .int p2]) ++ List.replicate (3 - (lg_sl ([.ref ox, .int p1, .int p2])).length) Slot.unset).toArray = ls at hl ⊢
  have hl : lv_has ls 3 [(0, .ref ox), (1, .int p1), (2, .int p2)] := hl
  refine lv_iload_n hx hb dX1_pay_0 rfl (lv_at hl 1 rfl) ?_
  refine wt_call (fun E h => Or.inl ⟨h.1, by simp [ewC, h.2]⟩) (vx_runS (As := [.int p1]) (rest := []) ⟨hx, hb, hml, hown, hts⟩ (m_X1_checkDriver l hnt (G := G) (L := L) (f := f) (p1)) (va_cwS 1 hts gX1_pay_X1_checkDriver rfl rfl rfl (by decide +kernel) ⟨Nat.le_of_ble_eq_true rfl, Nat.le_of_ble_eq_true rfl⟩) (wt_pS hK hE hw hA) rfl rfl hl.1 rfl (lv_room (Nat.le_of_ble_eq_true rfl)) dX1_pay_1 ⟨Nat.le_of_ble_eq_true rfl, Nat.le_of_ble_eq_true rfl⟩) hw hA htab hlocks (Nat.le_of_ble_eq_true rfl) (Nat.le_of_ble_eq_true rfl) (fun rw_1 Lw_1 fw_1 H locs hpost hw => ?_)
  obtain ⟨er_1, eL_1, ef_1, hok5⟩ := hpost
  subst er_1
  obtain rfl := eL_1.symm
  obtain rfl := ef_1.symm
  obtain ⟨hk5, e1⟩ := okN_ix hok5 (by omega)
  refine lv_iload_n hx hb dX1_pay_4 rfl (lv_at hl 2 rfl) ?_
  refine lv_iconst (v := 0) hx hb dX1_pay_5 (by decide) ?_
  refine lv_aload_n hx hb dX1_pay_6 rfl (lv_at hl 0 rfl) ?_
  refine wy_get (ci := 2) (v := .int (nI wk)) (C := RX1) (T := TX1) (N := 5) hx hb hts hinX1 hown hK hw.1 hq.1 rfl 4 (by decide) (hts (.fieldLink RX1 27 "Wheelpay" "presentWeek" "I") (by decide +kernel)) (fun _ h9 => h9) rfl dX1_pay_7 ?_
  refine wt_call (fun E h => Or.inr ⟨h.1, by simp [ewC, hok5, h.2]⟩) (vx_runS (As := [.int p2, .int 0, .int (nI wk)]) (rest := []) ⟨hx, hb, hml, hown, hts⟩ (m_X1_checkRange l hnt (G := G) (L := L) (f := f) (p2) (0) (nI wk)) (va_cwS 3 hts gX1_pay_X1_checkRange rfl rfl rfl (by decide +kernel) ⟨Nat.le_of_ble_eq_true rfl, Nat.le_of_ble_eq_true rfl⟩) (wt_pS hK hE hw hA) rfl rfl hl.1 rfl (lv_room (Nat.le_of_ble_eq_true rfl)) dX1_pay_10 ⟨Nat.le_of_ble_eq_true rfl, Nat.le_of_ble_eq_true rfl⟩) hw hA htab hlocks (Nat.le_of_ble_eq_true rfl) (Nat.le_of_ble_eq_true rfl) (fun rw_3 Lw_3 fw_3 H locs hpost hw => ?_)
  obtain ⟨er_3, eL_3, ef_3, hrg_2⟩ := hpost
  subst er_3
  obtain rfl := eL_3.symm
  obtain rfl := ef_3.symm
  refine lv_aload_n hx hb dX1_pay_13 rfl (lv_at hl 0 rfl) ?_
  refine lv_iload_n hx hb dX1_pay_14 rfl (lv_at hl 1 rfl) ?_
  refine lv_iload_n hx hb dX1_pay_15 rfl (lv_at hl 2 rfl) ?_
  refine vp_callSi (W.runV (As := [.int p1, .int p2]) (rest := []) ⟨hx, hb, hml, hown, hts⟩ (m_X1_payFor l hq (p1) (p2)) (cwV 2 hts gX1_pay_X1_payFor rfl rfl rfl (by decide +kernel) ⟨Nat.le_of_ble_eq_true rfl, Nat.le_of_ble_eq_true rfl⟩) (wy_pVR hK hw.1 hq.1 rfl) rfl rfl hl.1 rfl (lv_room (Nat.le_of_ble_eq_true rfl)) dX1_pay_16 ⟨Nat.le_of_ble_eq_true rfl, Nat.le_of_ble_eq_true rfl⟩) (fun r_4 er_4 => ?_)
  exact vx_ret (wy_iW hx hb hr hlocks dX1_pay_19 hw (Nat.le_of_ble_eq_true rfl) (Nat.le_of_ble_eq_true rfl) ⟨by simp [ewC, hok5, hrg_2], by rw [er_4], _, _, hq⟩)
set_option maxHeartbeats 4000000 in
set_option maxRecDepth 100000 in
theorem m_X1_balance (l : Launch) (hnt : l.stackTraces = false) {G : wy_G} {L : List Nat} {f : Nat → va_E} {sz : Nat} {ox lo : Nat} {ra ar : Nat → Nat} {n : Nat} {km mn : Int32} {wk : Nat} {po : Nat → Int32} {rr : Nat → wr_V} (hq : wx_S G L f ox lo ra ar n km mn wk po rr) (p1 : Int32) : vx_Met l yX1_balance wsX1_balance ({ frames := 8, cells := 1, slots := 6, locals := 180 } : Room) (va_Pc [.ref ox, .int p1] (wt_P G L f sz)) (wy_Q G (wx_p G ox lo n km mn wk po (rr) (some (.int (dueS rr n po wk (ix p1)))) (okC 5 p1)) (wy_A L sz)) (wt_X G (pxI (okC 5 p1)) L f (wy_A L sz)) 1 6 (wy_A L sz) := by
  refine vx_ofW (cc := cX1_balance) (maxL := 2) (ret := (some .int)) (by decide) rfl ?_
  intro p e s m args below meth c s₁ B hml htab hv
  obtain ⟨rfl, hv, hE⟩ := hv
  obtain ⟨hw, hK, hA⟩ := wy_start hv
  have hsz := hv.1
  subst hsz
  have hx := B.exec
  have hb := B.bytes
  have hr := B.returns
  have hts := atoms_spec (ws := wsX1_balance) B.pre
  have hown : s.vm.findClass RX1 = some m.cls := findClass_of_methodNamed B.named
  have hlocks := B.notSynchronized
  obtain ⟨md, he, cap, gg, hL1, -⟩ := id hq.2.1
  have hn : n ≤ 40 := hq.2.2.2.2.1
  have hwk : wk ≤ 20 := hq.2.2.2.2.2.1
  have hl := lv_entry ([.ref ox, .int p1]) (n := 2) (Nat.le_of_ble_eq_true rfl)
  rw [lg_entry_eq]
  generalize (lg_sl ([.ref ox, .int p1]) ++ List.replicate (2 - (lg_sl ([.ref ox, .int p1])).length) Slot.unset).toArray = ls at hl ⊢
  have hl : lv_has ls 2 [(0, .ref ox), (1, .int p1)] := hl
  refine lv_iload_n hx hb dX1_balance_0 rfl (lv_at hl 1 rfl) ?_
  refine wt_call (fun E h => ⟨h.1, by simp [okC, h.2]⟩) (vx_runS (As := [.int p1]) (rest := []) ⟨hx, hb, hml, hown, hts⟩ (m_X1_checkDriver l hnt (G := G) (L := L) (f := f) (p1)) (va_cwS 1 hts gX1_balance_X1_checkDriver rfl rfl rfl (by decide +kernel) ⟨Nat.le_of_ble_eq_true rfl, Nat.le_of_ble_eq_true rfl⟩) (wt_pS hK hE hw hA) rfl rfl hl.1 rfl (lv_room (Nat.le_of_ble_eq_true rfl)) dX1_balance_1 ⟨Nat.le_of_ble_eq_true rfl, Nat.le_of_ble_eq_true rfl⟩) hw hA htab hlocks (Nat.le_of_ble_eq_true rfl) (Nat.le_of_ble_eq_true rfl) (fun rw_1 Lw_1 fw_1 H locs hpost hw => ?_)
  obtain ⟨er_1, eL_1, ef_1, hok5⟩ := hpost
  subst er_1
  obtain rfl := eL_1.symm
  obtain rfl := ef_1.symm
  obtain ⟨hk5, e1⟩ := okN_ix hok5 (by omega)
  refine lv_aload_n hx hb dX1_balance_4 rfl (lv_at hl 0 rfl) ?_
  refine lv_iload_n hx hb dX1_balance_5 rfl (lv_at hl 1 rfl) ?_
  refine vp_callSi (W.runV (As := [.int p1]) (rest := []) ⟨hx, hb, hml, hown, hts⟩ (m_X1_dueTo l hq (p1) ((ix p1)) (by omega) e1) (cwV 1 hts gX1_balance_X1_dueTo rfl rfl rfl (by decide +kernel) ⟨Nat.le_of_ble_eq_true rfl, Nat.le_of_ble_eq_true rfl⟩) (wy_pVR hK hw.1 hq.1 rfl) rfl rfl hl.1 rfl (lv_room (Nat.le_of_ble_eq_true rfl)) dX1_balance_6 ⟨Nat.le_of_ble_eq_true rfl, Nat.le_of_ble_eq_true rfl⟩) (fun r_2 er_2 => ?_)
  exact vx_ret (wy_iW hx hb hr hlocks dX1_balance_9 hw (Nat.le_of_ble_eq_true rfl) (Nat.le_of_ble_eq_true rfl) ⟨by simp [okC, hok5], by rw [er_2], _, _, hq⟩)
set_option maxHeartbeats 4000000 in
set_option maxRecDepth 100000 in
theorem m_X1_paid (l : Launch) (hnt : l.stackTraces = false) {G : wy_G} {L : List Nat} {f : Nat → va_E} {sz : Nat} {ox lo : Nat} {ra ar : Nat → Nat} {n : Nat} {km mn : Int32} {wk : Nat} {po : Nat → Int32} {rr : Nat → wr_V} (hq : wx_S G L f ox lo ra ar n km mn wk po rr) (p1 : Int32) : vx_Met l yX1_paid wsX1_paid ({ frames := 7, cells := 1, slots := 6, locals := 102 } : Room) (va_Pc [.ref ox, .int p1] (wt_P G L f sz)) (wy_Q G (wx_p G ox lo n km mn wk po (rr) (some (.int (po (ix p1)))) (okC 5 p1)) (wy_A L sz)) (wt_X G (pxI (okC 5 p1)) L f (wy_A L sz)) 1 6 (wy_A L sz) := by
  refine vx_ofW (cc := cX1_paid) (maxL := 2) (ret := (some .int)) (by decide) rfl ?_
  intro p e s m args below meth c s₁ B hml htab hv
  obtain ⟨rfl, hv, hE⟩ := hv
  obtain ⟨hw, hK, hA⟩ := wy_start hv
  have hsz := hv.1
  subst hsz
  have hx := B.exec
  have hb := B.bytes
  have hr := B.returns
  have hts := atoms_spec (ws := wsX1_paid) B.pre
  have hown : s.vm.findClass RX1 = some m.cls := findClass_of_methodNamed B.named
  have hlocks := B.notSynchronized
  have hinX1 : ∀ w ∈ wsX10, w ∈ wsX1_paid := by decide +kernel
  obtain ⟨md, he, cap, gg, hL1, -⟩ := id hq.2.1
  have hn : n ≤ 40 := hq.2.2.2.2.1
  have hwk : wk ≤ 20 := hq.2.2.2.2.2.1
  have hl := lv_entry ([.ref ox, .int p1]) (n := 2) (Nat.le_of_ble_eq_true rfl)
  rw [lg_entry_eq]
  generalize (lg_sl ([.ref ox, .int p1]) ++ List.replicate (2 - (lg_sl ([.ref ox, .int p1])).length) Slot.unset).toArray = ls at hl ⊢
  have hl : lv_has ls 2 [(0, .ref ox), (1, .int p1)] := hl
  refine lv_iload_n hx hb dX1_paid_0 rfl (lv_at hl 1 rfl) ?_
  refine wt_call (fun E h => ⟨h.1, by simp [okC, h.2]⟩) (vx_runS (As := [.int p1]) (rest := []) ⟨hx, hb, hml, hown, hts⟩ (m_X1_checkDriver l hnt (G := G) (L := L) (f := f) (p1)) (va_cwS 1 hts gX1_paid_X1_checkDriver rfl rfl rfl (by decide +kernel) ⟨Nat.le_of_ble_eq_true rfl, Nat.le_of_ble_eq_true rfl⟩) (wt_pS hK hE hw hA) rfl rfl hl.1 rfl (lv_room (Nat.le_of_ble_eq_true rfl)) dX1_paid_1 ⟨Nat.le_of_ble_eq_true rfl, Nat.le_of_ble_eq_true rfl⟩) hw hA htab hlocks (Nat.le_of_ble_eq_true rfl) (Nat.le_of_ble_eq_true rfl) (fun rw_1 Lw_1 fw_1 H locs hpost hw => ?_)
  obtain ⟨er_1, eL_1, ef_1, hok5⟩ := hpost
  subst er_1
  obtain rfl := eL_1.symm
  obtain rfl := ef_1.symm
  obtain ⟨hk5, e1⟩ := okN_ix hok5 (by omega)
  refine lv_aload_n hx hb dX1_paid_4 rfl (lv_at hl 0 rfl) ?_
  refine wy_get (ci := 2) (v := .ref (ar 0)) (C := RX1) (T := TX1) (N := 5) hx hb hts hinX1 hown hK hw.1 hq.1 rfl 1 (by decide) (hts (.fieldLink RX1 16 "Wheelpay" "paidOut" "[I") (by decide +kernel)) (fun _ h9 => h9) rfl dX1_paid_5 ?_
  refine lv_iload_n hx hb dX1_paid_8 rfl (lv_at hl 1 rfl) ?_
  refine wy_iald hx hb hK hw.1 hq.2.2.1 ((ix p1)) e1 (by omega) (by omega) dX1_paid_9 ?_
  exact vx_ret (wy_iW hx hb hr hlocks dX1_paid_10 hw (Nat.le_of_ble_eq_true rfl) (Nat.le_of_ble_eq_true rfl) ⟨by simp [okC, hok5], rfl, _, _, hq⟩)
set_option maxHeartbeats 4000000 in
set_option maxRecDepth 100000 in
theorem m_X1_spent (l : Launch) (hnt : l.stackTraces = false) {G : wy_G} {L : List Nat} {f : Nat → va_E} {sz : Nat} {ox lo : Nat} {ra ar : Nat → Nat} {n : Nat} {km mn : Int32} {wk : Nat} {po : Nat → Int32} {rr : Nat → wr_V} (hq : wx_S G L f ox lo ra ar n km mn wk po rr) (p1 : Int32) : vx_Met l yX1_spent wsX1_spent ({ frames := 7, cells := 1, slots := 6, locals := 102 } : Room) (va_Pc [.ref ox, .int p1] (wt_P G L f sz)) (wy_Q G (wx_p G ox lo n km mn wk po (rr) (some (.int (spdS rr n (ix p1)))) (okC 10 p1)) (wy_A L sz)) (wt_X G (pxI (okC 10 p1)) L f (wy_A L sz)) 1 6 (wy_A L sz) := by
  refine vx_ofW (cc := cX1_spent) (maxL := 5) (ret := (some .int)) (by decide) rfl ?_
  intro p e s m args below meth c s₁ B hml htab hv
  obtain ⟨rfl, hv, hE⟩ := hv
  obtain ⟨hw, hK, hA⟩ := wy_start hv
  have hsz := hv.1
  subst hsz
  have hx := B.exec
  have hb := B.bytes
  have hr := B.returns
  have hts := atoms_spec (ws := wsX1_spent) B.pre
  have hown : s.vm.findClass RX1 = some m.cls := findClass_of_methodNamed B.named
  have hlocks := B.notSynchronized
  have hinX1 : ∀ w ∈ wsX10, w ∈ wsX1_spent := by decide +kernel
  obtain ⟨md, he, cap, gg, hL1, -⟩ := id hq.2.1
  have hn : n ≤ 40 := hq.2.2.2.2.1
  have hwk : wk ≤ 20 := hq.2.2.2.2.2.1
  have hl := lv_entry ([.ref ox, .int p1]) (n := 5) (Nat.le_of_ble_eq_true rfl)
  rw [lg_entry_eq]
  generalize (lg_sl ([.ref ox, .int p1]) ++ List.replicate (5 - (lg_sl ([.ref ox, .int p1])).length) Slot.unset).toArray = ls at hl ⊢
  have hl : lv_has ls 5 [(0, .ref ox), (1, .int p1)] := hl
  refine lv_iload_n hx hb dX1_spent_0 rfl (lv_at hl 1 rfl) ?_
  refine wt_call (fun E h => ⟨h.1, by simp [okC, h.2]⟩) (vx_runS (As := [.int p1]) (rest := []) ⟨hx, hb, hml, hown, hts⟩ (m_X1_checkRider l hnt (G := G) (L := L) (f := f) (p1)) (va_cwS 1 hts gX1_spent_X1_checkRider rfl rfl rfl (by decide +kernel) ⟨Nat.le_of_ble_eq_true rfl, Nat.le_of_ble_eq_true rfl⟩) (wt_pS hK hE hw hA) rfl rfl hl.1 rfl (lv_room (Nat.le_of_ble_eq_true rfl)) dX1_spent_1 ⟨Nat.le_of_ble_eq_true rfl, Nat.le_of_ble_eq_true rfl⟩) hw hA htab hlocks (Nat.le_of_ble_eq_true rfl) (Nat.le_of_ble_eq_true rfl) (fun rw_1 Lw_1 fw_1 H locs hpost hw => ?_)
  obtain ⟨er_1, eL_1, ef_1, hok2⟩ := hpost
  subst er_1
  obtain rfl := eL_1.symm
  obtain rfl := ef_1.symm
  obtain ⟨hr10, e1⟩ := okN_ix hok2 (by omega)
  refine lv_iconst (v := 0) hx hb dX1_spent_4 (by decide) ?_
  refine lv_istore_n (lv' := [(2, .int 0), (0, .ref ox), (1, .int p1)]) hx hb dX1_spent_5 rfl hl (by decide) rfl (fun ls hl => ?_)
  refine lv_iconst (v := 0) hx hb dX1_spent_6 (by decide) ?_
  refine lv_istore_n (lv' := [(3, .int 0), (2, .int 0), (0, .ref ox), (1, .int p1)]) hx hb dX1_spent_7 rfl hl (by decide) rfl (fun ls hl => ?_)
  have KK : ∀ (d i : Nat), i + d = n → ∀ (xi_i : Int32), xi_i = nI (i) → ∀ (a_s : Int32), a_s = bx_sum (fun k => if rfi (rr k) then rch (rr k) (ix p1) - rrf (rr k) (ix p1) else 0) i → ∀ (H : Heap) (locs : List Loc) (fc : Nat → va_E), wy_H G L fc (wy_A L s.heap.size) s.heap H locs → wx_S G L fc ox lo ra ar n km mn wk po rr → ∀ ls : Array Slot, lv_has ls 5 [(3, .int xi_i), (2, .int a_s), (0, .ref ox), (1, .int p1)] → W p l e (headSpec wsX1_spent ({ frames := 7, cells := 1, slots := 6, locals := 102 } : Room)).room s m ([.ref ox, .int p1] : List Value).toArray below meth c H locs 1 6 (vx_MQ below (wy_Q G (wx_p G ox lo n km mn wk po (rr) (some (.int (spdS rr n (ix p1)))) (okC 10 p1)) (wy_A L s.heap.size)) (wt_X G (pxI (okC 10 p1)) L f (wy_A L s.heap.size)) ([.ref ox, .int p1] : List Value).toArray s 1 6 (wy_A L s.heap.size)) (F0 m 8 ls []) := by
    intro d
    induction d with
    | zero =>
      intro i hd_i xi_i ei_i a_s ha_s H locs fc hw hq ls hl
      obtain ⟨md, he, cap, gg, hL1, -⟩ := id hq.2.1
      refine lv_iload_n hx hb dX1_spent_8 rfl (lv_at hl 0 rfl) ?_
      refine lv_aload_n hx hb dX1_spent_9 rfl (lv_at hl 2 rfl) ?_
      refine wy_get (ci := 2) (v := .ref lo) (C := RX1) (T := TX1) (N := 5) hx hb hts hinX1 hown hK hw.1 hq.1 rfl 0 (by decide) (hts (.fieldLink RX1 10 "Wheelpay" "rides" "Ljava/util/ArrayList;") (by decide +kernel)) (fun _ h9 => h9) rfl dX1_spent_10 ?_
      refine vp_callSi (W.runV (As := []) (rest := [.int xi_i]) ⟨hx, hb, hml, hown, hts⟩ (m_Jx4a65c_size_8abf5 l hq.2.1) (cwV 0 hts gX1_spent_Jx4a65c_size_8abf5 rfl rfl rfl (by decide +kernel) ⟨Nat.le_of_ble_eq_true rfl, Nat.le_of_ble_eq_true rfl⟩) (wy_pVR hK hw.1 hL1 rfl) rfl rfl hl.1 rfl (lv_room (Nat.le_of_ble_eq_true rfl)) dX1_spent_13 ⟨Nat.le_of_ble_eq_true rfl, Nat.le_of_ble_eq_true rfl⟩) (fun r_2 er_2 => ?_)
      refine lv_icmp_ge (tgt := 62) hx hb dX1_spent_16 (by decide) (fun c_3 => ?_) (fun c_3 => ?_)
      · have nc_3 : n ≤ i := (wy_ge ei_i er_2 (by omega) (by omega)).mp c_3
        obtain rfl : n = i := by omega
        refine lv_iload_n hx hb dX1_spent_62 rfl (lv_at hl 1 rfl) ?_
        exact vx_ret (wy_iW hx hb hr hlocks dX1_spent_63 hw (Nat.le_of_ble_eq_true rfl) (Nat.le_of_ble_eq_true rfl) ⟨by simp [okC, hok2], by rw [ha_s]; rfl, _, _, hq⟩)
      · have nc_3 : ¬ (n ≤ i) := fun z => c_3 ((wy_ge ei_i er_2 (by omega) (by omega)).mpr z)
        exact absurd nc_3 (by omega)
    | succ d ih_d =>
      intro i hd_i xi_i ei_i a_s ha_s H locs fc hw hq ls hl
      obtain ⟨md, he, cap, gg, hL1, -⟩ := id hq.2.1
      refine lv_iload_n hx hb dX1_spent_8 rfl (lv_at hl 0 rfl) ?_
      refine lv_aload_n hx hb dX1_spent_9 rfl (lv_at hl 2 rfl) ?_
      refine wy_get (ci := 2) (v := .ref lo) (C := RX1) (T := TX1) (N := 5) hx hb hts hinX1 hown hK hw.1 hq.1 rfl 0 (by decide) (hts (.fieldLink RX1 10 "Wheelpay" "rides" "Ljava/util/ArrayList;") (by decide +kernel)) (fun _ h9 => h9) rfl dX1_spent_10 ?_
      refine vp_callSi (W.runV (As := []) (rest := [.int xi_i]) ⟨hx, hb, hml, hown, hts⟩ (m_Jx4a65c_size_8abf5 l hq.2.1) (cwV 0 hts gX1_spent_Jx4a65c_size_8abf5 rfl rfl rfl (by decide +kernel) ⟨Nat.le_of_ble_eq_true rfl, Nat.le_of_ble_eq_true rfl⟩) (wy_pVR hK hw.1 hL1 rfl) rfl rfl hl.1 rfl (lv_room (Nat.le_of_ble_eq_true rfl)) dX1_spent_13 ⟨Nat.le_of_ble_eq_true rfl, Nat.le_of_ble_eq_true rfl⟩) (fun r_4 er_4 => ?_)
      refine lv_icmp_ge (tgt := 62) hx hb dX1_spent_16 (by decide) (fun c_5 => ?_) (fun c_5 => ?_)
      · have nc_5 : n ≤ i := (wy_ge ei_i er_4 (by omega) (by omega)).mp c_5
        exact absurd nc_5 (by omega)
      · have nc_5 : ¬ (n ≤ i) := fun z => c_5 ((wy_ge ei_i er_4 (by omega) (by omega)).mpr z)
        refine lv_aload_n hx hb dX1_spent_19 rfl (lv_at hl 2 rfl) ?_
        refine wy_get (ci := 2) (v := .ref lo) (C := RX1) (T := TX1) (N := 5) hx hb hts hinX1 hown hK hw.1 hq.1 rfl 0 (by decide) (hts (.fieldLink RX1 10 "Wheelpay" "rides" "Ljava/util/ArrayList;") (by decide +kernel)) (fun _ h9 => h9) rfl dX1_spent_20 ?_
        refine lv_iload_n hx hb dX1_spent_23 rfl (lv_at hl 0 rfl) ?_
        refine va_csr (W.runV (As := [.int xi_i]) (rest := []) ⟨hx, hb, hml, hown, hts⟩ (m_Jx4a65c_get_915e3 l hq.2.1 (xi_i) (i) (by omega) ei_i) (cwV 1 hts gX1_spent_Jx4a65c_get_915e3 rfl rfl rfl (by decide +kernel) ⟨Nat.le_of_ble_eq_true rfl, Nat.le_of_ble_eq_true rfl⟩) (wy_pVR hK hw.1 hL1 rfl) rfl rfl hl.1 rfl (lv_room (Nat.le_of_ble_eq_true rfl)) dX1_spent_24 ⟨Nat.le_of_ble_eq_true rfl, Nat.le_of_ble_eq_true rfl⟩) (fun r_6 er_6 => ?_)
        subst er_6
        refine wy_cast (ci := 1) hx hb hown (hts (.classLink RX1 55 "Wheelpay$Ride") (by decide +kernel)) hK hw.1 (hq.2.2.2.1 (i) (by omega)).1 rfl dX1_spent_27 ?_
        refine lv_astore (lv' := [(4, .ref (ra (i))), (3, .int xi_i), (2, .int a_s), (0, .ref ox), (1, .int p1)]) hx hb dX1_spent_30 hl (by decide) rfl (fun ls hl => ?_)
        refine lv_aload hx hb dX1_spent_32 (lv_at hl 0 rfl) ?_
        refine vp_callSi (W.runV (As := []) (rest := []) ⟨hx, hb, hml, hown, hts⟩ (m_X0_isFinished l (hq.2.2.2.1 (i) (by omega))) (cwV 0 hts gX1_spent_X0_isFinished rfl rfl rfl (by decide +kernel) ⟨Nat.le_of_ble_eq_true rfl, Nat.le_of_ble_eq_true rfl⟩) (wy_pVR hK hw.1 (hq.2.2.2.1 (i) (by omega)).1 rfl) rfl rfl hl.1 rfl (lv_room (Nat.le_of_ble_eq_true rfl)) dX1_spent_34 ⟨Nat.le_of_ble_eq_true rfl, Nat.le_of_ble_eq_true rfl⟩) (fun r_7 er_7 => ?_)
        refine lv_if_eq (tgt := 56) hx hb dX1_spent_37 (by decide) (fun c_8 => ?_) (fun c_8 => ?_)
        · have bc_8 : (rfi (rr (i))) = false := bI_0 (er_7.symm.trans c_8)
          obtain ⟨x_9, ex_9⟩ : ∃ y : Int32, y = xi_i + 1 := ⟨_, rfl⟩
          have nx_9 : x_9 = nI (i + 1) := by rw [ex_9, ei_i, nI_1]
          refine lv_iinc (v := x_9) (lv' := [(3, .int x_9), (4, .ref (ra (i))), (2, .int a_s), (0, .ref ox), (1, .int p1)]) hx hb dX1_spent_56 hl (k := 1) rfl (by rw [ex_9]; rfl) (by decide) rfl (fun ls hl => ?_)
          refine lv_goto (tgt := 8) hx hb dX1_spent_59 (by decide) ?_
          exact ih_d (i + 1) (by omega) _ nx_9 _ (by simp [bx_sum, ha_s, er_4, er_7, ex_9, bc_8]) _ _ _ hw hq ls (lv_sub hl [0, 2, 3, 4] rfl)
        · have bc_8 : (rfi (rr (i))) = true := bI_1 (fun z => c_8 (er_7.trans z))
          refine lv_iload_n hx hb dX1_spent_40 rfl (lv_at hl 2 rfl) ?_
          refine lv_aload hx hb dX1_spent_41 (lv_at hl 0 rfl) ?_
          refine lv_iload_n hx hb dX1_spent_43 rfl (lv_at hl 4 rfl) ?_
          refine vp_callSi (W.runV (As := [.int p1]) (rest := [.int a_s]) ⟨hx, hb, hml, hown, hts⟩ (m_X0_chargeOf l (hq.2.2.2.1 (i) (by omega)) (p1) ((ix p1)) (by omega) e1) (cwV 1 hts gX1_spent_X0_chargeOf rfl rfl rfl (by decide +kernel) ⟨Nat.le_of_ble_eq_true rfl, Nat.le_of_ble_eq_true rfl⟩) (wy_pVR hK hw.1 (hq.2.2.2.1 (i) (by omega)).1 rfl) rfl rfl hl.1 rfl (lv_room (Nat.le_of_ble_eq_true rfl)) dX1_spent_44 ⟨Nat.le_of_ble_eq_true rfl, Nat.le_of_ble_eq_true rfl⟩) (fun r_10 er_10 => ?_)
          refine lv_aload hx hb dX1_spent_47 (lv_at hl 0 rfl) ?_
          refine lv_iload_n hx hb dX1_spent_49 rfl (lv_at hl 4 rfl) ?_
          refine vp_callSi (W.runV (As := [.int p1]) (rest := [.int r_10, .int a_s]) ⟨hx, hb, hml, hown, hts⟩ (m_X0_refundOf l (hq.2.2.2.1 (i) (by omega)) (p1) ((ix p1)) (by omega) e1) (cwV 1 hts gX1_spent_X0_refundOf rfl rfl rfl (by decide +kernel) ⟨Nat.le_of_ble_eq_true rfl, Nat.le_of_ble_eq_true rfl⟩) (wy_pVR hK hw.1 (hq.2.2.2.1 (i) (by omega)).1 rfl) rfl rfl hl.1 rfl (lv_room (Nat.le_of_ble_eq_true rfl)) dX1_spent_50 ⟨Nat.le_of_ble_eq_true rfl, Nat.le_of_ble_eq_true rfl⟩) (fun r_11 er_11 => ?_)
          refine lv_isub hx hb dX1_spent_53 ?_
          refine lv_topi (fun x_12 ex_12 => ?_)
          refine lv_iadd hx hb dX1_spent_54 ?_
          refine lv_topi (fun x_13 ex_13 => ?_)
          refine lv_istore_n (lv' := [(2, .int x_13), (4, .ref (ra (i))), (3, .int xi_i), (0, .ref ox), (1, .int p1)]) hx hb dX1_spent_55 rfl hl (by decide) rfl (fun ls hl => ?_)
          obtain ⟨x_14, ex_14⟩ : ∃ y : Int32, y = xi_i + 1 := ⟨_, rfl⟩
          have nx_14 : x_14 = nI (i + 1) := by rw [ex_14, ei_i, nI_1]
          refine lv_iinc (v := x_14) (lv' := [(3, .int x_14), (2, .int x_13), (4, .ref (ra (i))), (0, .ref ox), (1, .int p1)]) hx hb dX1_spent_56 hl (k := 2) rfl (by rw [ex_14]; rfl) (by decide) rfl (fun ls hl => ?_)
          refine lv_goto (tgt := 8) hx hb dX1_spent_59 (by decide) ?_
          exact ih_d (i + 1) (by omega) _ nx_14 _ (by simp [bx_sum, ha_s, er_4, er_7, er_10, er_11, ex_12, ex_13, ex_14, bc_8]) _ _ _ hw hq ls (lv_sub hl [0, 1, 3, 4] rfl)
  exact KK (n) 0 (by omega) _ rfl _ rfl _ _ _ hw hq ls (lv_sub hl [0, 1, 2, 3] rfl)
