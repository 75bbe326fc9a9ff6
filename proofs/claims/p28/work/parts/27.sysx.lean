set_option maxHeartbeats 4000000 in
set_option maxRecDepth 100000 in
theorem m_X1_checkRider (l : Launch) (hnt : l.stackTraces = false) {G : wy_G} {L : List Nat} {f : Nat → va_E} {sz : Nat} (p0 : Int32) : vx_Met l yX1_checkRider wsX1_checkRider ({ frames := 6, cells := 1, slots := 6, locals := 82 } : Room) (va_Pc [.int p0] (wt_P G L f sz)) (wy_Q G (wx_k L f none (okN 10 p0 = true)) (wy_A L sz)) (wt_X G (fun E => E = eI ∧ okN 10 p0 = false) L f (wy_A L sz)) 1 6 (wy_A L sz) := by
  refine vx_ofW (cc := cX1_checkRider) (maxL := 1) (ret := none) (by decide) rfl ?_
  intro p e s m args below meth c s₁ B hml htab hv
  obtain ⟨rfl, hv, hE⟩ := hv
  obtain ⟨hw, hK, hA⟩ := wy_start hv
  have hsz := hv.1
  subst hsz
  have hx := B.exec
  have hb := B.bytes
  have hr := B.returns
  have hts := atoms_spec (ws := wsX1_checkRider) B.pre
  have hown : s.vm.findClass RX1 = some m.cls := findClass_of_methodNamed B.named
  have hlocks := B.notSynchronized
  have hl := lv_entry ([.int p0]) (n := 1) (Nat.le_of_ble_eq_true rfl)
  rw [lg_entry_eq]
  generalize (lg_sl ([.int p0]) ++ List.replicate (1 - (lg_sl ([.int p0])).length) Slot.unset).toArray = ls at hl ⊢
  have hl : lv_has ls 1 [(0, .int p0)] := hl
  refine lv_iload_n hx hb dX1_checkRider_0 rfl (lv_at hl 0 rfl) ?_
  refine lv_if_lt (tgt := 10) hx hb dX1_checkRider_1 (by decide) (fun c_1 => ?_) (fun c_1 => ?_)
  · exact wt_throw (is := 231) (text := "no such rider") wt_gdI wt_nbI (by decide) (by decide +kernel) hx hb hnt hown (by decide) (hts (.classLink RX1 224 "java/lang/IndexOutOfBoundsException") (by decide +kernel)) (hts (.initialized "java/lang/IndexOutOfBoundsException") (by decide +kernel)) (fun w h => hts w ((by decide +kernel : ∀ w ∈ (vx_atS RX1 228 "java/lang/IndexOutOfBoundsException" wt_nm).filter goodWord, w ∈ wsX1_checkRider) w h)) hE hw (by rw [hml]; exact hl.1) dX1_checkRider_10 dX1_checkRider_13 dX1_checkRider_14 dX1_checkRider_16 dX1_checkRider_19 htab (Nat.le_of_ble_eq_true rfl) (Nat.le_of_ble_eq_true rfl) (Nat.le_of_ble_eq_true rfl) (Nat.le_of_ble_eq_true rfl) hlocks (Nat.le_of_ble_eq_true rfl) (Nat.le_of_ble_eq_true rfl) ⟨rfl, by simp [okN, show nI 10 = (10 : Int32) from rfl, c_1]⟩
  · refine lv_iload_n hx hb dX1_checkRider_4 rfl (lv_at hl 0 rfl) ?_
    refine lv_bipush (v := 10) hx hb dX1_checkRider_5 (by decide) ?_
    refine lv_icmp_lt (tgt := 20) hx hb dX1_checkRider_7 (by decide) (fun c_2 => ?_) (fun c_2 => ?_)
    · exact vx_ret (wy_vW hx hb hr hlocks dX1_checkRider_20 hw (Nat.le_of_ble_eq_true rfl) (Nat.le_of_ble_eq_true rfl) ⟨rfl, rfl, rfl, by simp [okN, c_1, show nI 10 = (10 : Int32) from rfl, c_2]⟩)
    · exact wt_throw (is := 231) (text := "no such rider") wt_gdI wt_nbI (by decide) (by decide +kernel) hx hb hnt hown (by decide) (hts (.classLink RX1 224 "java/lang/IndexOutOfBoundsException") (by decide +kernel)) (hts (.initialized "java/lang/IndexOutOfBoundsException") (by decide +kernel)) (fun w h => hts w ((by decide +kernel : ∀ w ∈ (vx_atS RX1 228 "java/lang/IndexOutOfBoundsException" wt_nm).filter goodWord, w ∈ wsX1_checkRider) w h)) hE hw (by rw [hml]; exact hl.1) dX1_checkRider_10 dX1_checkRider_13 dX1_checkRider_14 dX1_checkRider_16 dX1_checkRider_19 htab (Nat.le_of_ble_eq_true rfl) (Nat.le_of_ble_eq_true rfl) (Nat.le_of_ble_eq_true rfl) (Nat.le_of_ble_eq_true rfl) hlocks (Nat.le_of_ble_eq_true rfl) (Nat.le_of_ble_eq_true rfl) ⟨rfl, by simp [okN, show nI 10 = (10 : Int32) from rfl, c_2]⟩
set_option maxHeartbeats 4000000 in
set_option maxRecDepth 100000 in
theorem m_X1_checkDriver (l : Launch) (hnt : l.stackTraces = false) {G : wy_G} {L : List Nat} {f : Nat → va_E} {sz : Nat} (p0 : Int32) : vx_Met l yX1_checkDriver wsX1_checkDriver ({ frames := 6, cells := 1, slots := 6, locals := 82 } : Room) (va_Pc [.int p0] (wt_P G L f sz)) (wy_Q G (wx_k L f none (okN 5 p0 = true)) (wy_A L sz)) (wt_X G (fun E => E = eI ∧ okN 5 p0 = false) L f (wy_A L sz)) 1 6 (wy_A L sz) := by
  refine vx_ofW (cc := cX1_checkDriver) (maxL := 1) (ret := none) (by decide) rfl ?_
  intro p e s m args below meth c s₁ B hml htab hv
  obtain ⟨rfl, hv, hE⟩ := hv
  obtain ⟨hw, hK, hA⟩ := wy_start hv
  have hsz := hv.1
  subst hsz
  have hx := B.exec
  have hb := B.bytes
  have hr := B.returns
  have hts := atoms_spec (ws := wsX1_checkDriver) B.pre
  have hown : s.vm.findClass RX1 = some m.cls := findClass_of_methodNamed B.named
  have hlocks := B.notSynchronized
  have hl := lv_entry ([.int p0]) (n := 1) (Nat.le_of_ble_eq_true rfl)
  rw [lg_entry_eq]
  generalize (lg_sl ([.int p0]) ++ List.replicate (1 - (lg_sl ([.int p0])).length) Slot.unset).toArray = ls at hl ⊢
  have hl : lv_has ls 1 [(0, .int p0)] := hl
  refine lv_iload_n hx hb dX1_checkDriver_0 rfl (lv_at hl 0 rfl) ?_
  refine lv_if_lt (tgt := 9) hx hb dX1_checkDriver_1 (by decide) (fun c_1 => ?_) (fun c_1 => ?_)
  · exact wt_throw (is := 233) (text := "no such driver") wt_gdI wt_nbI (by decide) (by decide +kernel) hx hb hnt hown (by decide) (hts (.classLink RX1 224 "java/lang/IndexOutOfBoundsException") (by decide +kernel)) (hts (.initialized "java/lang/IndexOutOfBoundsException") (by decide +kernel)) (fun w h => hts w ((by decide +kernel : ∀ w ∈ (vx_atS RX1 228 "java/lang/IndexOutOfBoundsException" wt_nm).filter goodWord, w ∈ wsX1_checkDriver) w h)) hE hw (by rw [hml]; exact hl.1) dX1_checkDriver_9 dX1_checkDriver_12 dX1_checkDriver_13 dX1_checkDriver_15 dX1_checkDriver_18 htab (Nat.le_of_ble_eq_true rfl) (Nat.le_of_ble_eq_true rfl) (Nat.le_of_ble_eq_true rfl) (Nat.le_of_ble_eq_true rfl) hlocks (Nat.le_of_ble_eq_true rfl) (Nat.le_of_ble_eq_true rfl) ⟨rfl, by simp [okN, show nI 5 = (5 : Int32) from rfl, c_1]⟩
  · refine lv_iload_n hx hb dX1_checkDriver_4 rfl (lv_at hl 0 rfl) ?_
    refine lv_iconst (v := 5) hx hb dX1_checkDriver_5 (by decide) ?_
    refine lv_icmp_lt (tgt := 19) hx hb dX1_checkDriver_6 (by decide) (fun c_2 => ?_) (fun c_2 => ?_)
    · exact vx_ret (wy_vW hx hb hr hlocks dX1_checkDriver_19 hw (Nat.le_of_ble_eq_true rfl) (Nat.le_of_ble_eq_true rfl) ⟨rfl, rfl, rfl, by simp [okN, c_1, show nI 5 = (5 : Int32) from rfl, c_2]⟩)
    · exact wt_throw (is := 233) (text := "no such driver") wt_gdI wt_nbI (by decide) (by decide +kernel) hx hb hnt hown (by decide) (hts (.classLink RX1 224 "java/lang/IndexOutOfBoundsException") (by decide +kernel)) (hts (.initialized "java/lang/IndexOutOfBoundsException") (by decide +kernel)) (fun w h => hts w ((by decide +kernel : ∀ w ∈ (vx_atS RX1 228 "java/lang/IndexOutOfBoundsException" wt_nm).filter goodWord, w ∈ wsX1_checkDriver) w h)) hE hw (by rw [hml]; exact hl.1) dX1_checkDriver_9 dX1_checkDriver_12 dX1_checkDriver_13 dX1_checkDriver_15 dX1_checkDriver_18 htab (Nat.le_of_ble_eq_true rfl) (Nat.le_of_ble_eq_true rfl) (Nat.le_of_ble_eq_true rfl) (Nat.le_of_ble_eq_true rfl) hlocks (Nat.le_of_ble_eq_true rfl) (Nat.le_of_ble_eq_true rfl) ⟨rfl, by simp [okN, show nI 5 = (5 : Int32) from rfl, c_2]⟩
set_option maxHeartbeats 4000000 in
set_option maxRecDepth 100000 in
theorem m_X1_checkRange (l : Launch) (hnt : l.stackTraces = false) {G : wy_G} {L : List Nat} {f : Nat → va_E} {sz : Nat} (p0 p1 p2 : Int32) : vx_Met l yX1_checkRange wsX1_checkRange ({ frames := 6, cells := 1, slots := 6, locals := 82 } : Room) (va_Pc [.int p0, .int p1, .int p2] (wt_P G L f sz)) (wy_Q G (wx_k L f none (rngB p0 p1 p2 = true)) (wy_A L sz)) (wt_X G (fun E => E = eA ∧ rngB p0 p1 p2 = false) L f (wy_A L sz)) 1 6 (wy_A L sz) := by
  refine vx_ofW (cc := cX1_checkRange) (maxL := 3) (ret := none) (by decide) rfl ?_
  intro p e s m args below meth c s₁ B hml htab hv
  obtain ⟨rfl, hv, hE⟩ := hv
  obtain ⟨hw, hK, hA⟩ := wy_start hv
  have hsz := hv.1
  subst hsz
  have hx := B.exec
  have hb := B.bytes
  have hr := B.returns
  have hts := atoms_spec (ws := wsX1_checkRange) B.pre
  have hown : s.vm.findClass RX1 = some m.cls := findClass_of_methodNamed B.named
  have hlocks := B.notSynchronized
  have hl := lv_entry ([.int p0, .int p1, .int p2]) (n := 3) (Nat.le_of_ble_eq_true rfl)
  rw [lg_entry_eq]
  generalize (lg_sl ([.int p0, .int p1, .int p2]) ++ List.replicate (3 - (lg_sl ([.int p0, .int p1, .int p2])).length) Slot.unset).toArray = ls at hl ⊢
  have hl : lv_has ls 3 [(0, .int p0), (1, .int p1), (2, .int p2)] := hl
  refine lv_iload_n hx hb dX1_checkRange_0 rfl (lv_at hl 0 rfl) ?_
  refine lv_iload_n hx hb dX1_checkRange_1 rfl (lv_at hl 1 rfl) ?_
  refine lv_icmp_lt (tgt := 10) hx hb dX1_checkRange_2 (by decide) (fun c_1 => ?_) (fun c_1 => ?_)
  · exact wt_throw (is := 237) (text := "out of range") wt_gdA wt_nbA (by decide) (by decide +kernel) hx hb hnt hown (by decide) (hts (.classLink RX1 235 "java/lang/IllegalArgumentException") (by decide +kernel)) (hts (.initialized "java/lang/IllegalArgumentException") (by decide +kernel)) (fun w h => hts w ((by decide +kernel : ∀ w ∈ (vx_atS RX1 239 "java/lang/IllegalArgumentException" wt_nm).filter goodWord, w ∈ wsX1_checkRange) w h)) hE hw (by rw [hml]; exact hl.1) dX1_checkRange_10 dX1_checkRange_13 dX1_checkRange_14 dX1_checkRange_16 dX1_checkRange_19 htab (Nat.le_of_ble_eq_true rfl) (Nat.le_of_ble_eq_true rfl) (Nat.le_of_ble_eq_true rfl) (Nat.le_of_ble_eq_true rfl) hlocks (Nat.le_of_ble_eq_true rfl) (Nat.le_of_ble_eq_true rfl) ⟨rfl, by simp [rngB, Int32.not_le.mpr c_1]⟩
  · refine lv_iload_n hx hb dX1_checkRange_5 rfl (lv_at hl 0 rfl) ?_
    refine lv_iload_n hx hb dX1_checkRange_6 rfl (lv_at hl 2 rfl) ?_
    refine lv_icmp_le (tgt := 20) hx hb dX1_checkRange_7 (by decide) (fun c_2 => ?_) (fun c_2 => ?_)
    · exact vx_ret (wy_vW hx hb hr hlocks dX1_checkRange_20 hw (Nat.le_of_ble_eq_true rfl) (Nat.le_of_ble_eq_true rfl) ⟨rfl, rfl, rfl, by simp [rngB, Int32.not_lt.mp c_1, c_2]⟩)
    · exact wt_throw (is := 237) (text := "out of range") wt_gdA wt_nbA (by decide) (by decide +kernel) hx hb hnt hown (by decide) (hts (.classLink RX1 235 "java/lang/IllegalArgumentException") (by decide +kernel)) (hts (.initialized "java/lang/IllegalArgumentException") (by decide +kernel)) (fun w h => hts w ((by decide +kernel : ∀ w ∈ (vx_atS RX1 239 "java/lang/IllegalArgumentException" wt_nm).filter goodWord, w ∈ wsX1_checkRange) w h)) hE hw (by rw [hml]; exact hl.1) dX1_checkRange_10 dX1_checkRange_13 dX1_checkRange_14 dX1_checkRange_16 dX1_checkRange_19 htab (Nat.le_of_ble_eq_true rfl) (Nat.le_of_ble_eq_true rfl) (Nat.le_of_ble_eq_true rfl) (Nat.le_of_ble_eq_true rfl) hlocks (Nat.le_of_ble_eq_true rfl) (Nat.le_of_ble_eq_true rfl) ⟨rfl, by simp [rngB, c_2]⟩
set_option maxHeartbeats 4000000 in
set_option maxRecDepth 100000 in
theorem m_X1_checkUnderWay (l : Launch) (hnt : l.stackTraces = false) {G : wy_G} {L : List Nat} {f : Nat → va_E} {sz : Nat} {ha ca da : Nat} {vv : wr_V} (hq : wr_o G L f ha ca da vv) : vx_Met l yX1_checkUnderWay wsX1_checkUnderWay ({ frames := 6, cells := 1, slots := 6, locals := 82 } : Room) (va_Pc [.ref ha] (wt_P G L f sz)) (wy_Q G (wx_k L f none (rfi vv = false)) (wy_A L sz)) (wt_X G (fun E => E = eS ∧ rfi vv = true) L f (wy_A L sz)) 1 6 (wy_A L sz) := by
  refine vx_ofW (cc := cX1_checkUnderWay) (maxL := 1) (ret := none) (by decide) rfl ?_
  intro p e s m args below meth c s₁ B hml htab hv
  obtain ⟨rfl, hv, hE⟩ := hv
  obtain ⟨hw, hK, hA⟩ := wy_start hv
  have hsz := hv.1
  subst hsz
  have hx := B.exec
  have hb := B.bytes
  have hr := B.returns
  have hts := atoms_spec (ws := wsX1_checkUnderWay) B.pre
  have hown : s.vm.findClass RX1 = some m.cls := findClass_of_methodNamed B.named
  have hlocks := B.notSynchronized
  have hl := lv_entry ([.ref ha]) (n := 1) (Nat.le_of_ble_eq_true rfl)
  rw [lg_entry_eq]
  generalize (lg_sl ([.ref ha]) ++ List.replicate (1 - (lg_sl ([.ref ha])).length) Slot.unset).toArray = ls at hl ⊢
  have hl : lv_has ls 1 [(0, .ref ha)] := hl
  refine lv_aload_n hx hb dX1_checkUnderWay_0 rfl (lv_at hl 0 rfl) ?_
  refine vp_callSi (W.runV (As := []) (rest := []) ⟨hx, hb, hml, hown, hts⟩ (m_X0_isFinished l hq) (cwV 0 hts gX1_checkUnderWay_X0_isFinished rfl rfl rfl (by decide +kernel) ⟨Nat.le_of_ble_eq_true rfl, Nat.le_of_ble_eq_true rfl⟩) (wy_pVR hK hw.1 hq.1 rfl) rfl rfl hl.1 rfl (lv_room (Nat.le_of_ble_eq_true rfl)) dX1_checkUnderWay_1 ⟨Nat.le_of_ble_eq_true rfl, Nat.le_of_ble_eq_true rfl⟩) (fun r_1 er_1 => ?_)
  refine lv_if_eq (tgt := 17) hx hb dX1_checkUnderWay_4 (by decide) (fun c_2 => ?_) (fun c_2 => ?_)
  · have bc_2 : (rfi vv) = false := bI_0 (er_1.symm.trans c_2)
    exact vx_ret (wy_vW hx hb hr hlocks dX1_checkUnderWay_17 hw (Nat.le_of_ble_eq_true rfl) (Nat.le_of_ble_eq_true rfl) ⟨rfl, rfl, rfl, bc_2⟩)
  · have bc_2 : (rfi vv) = true := bI_1 (fun z => c_2 (er_1.trans z))
    exact wt_throw (is := 229) (text := "the ride is not under way") wt_gdS wt_nbS (by decide) (by decide +kernel) hx hb hnt hown (by decide) (hts (.classLink RX1 42 "java/lang/IllegalStateException") (by decide +kernel)) (hts (.initialized "java/lang/IllegalStateException") (by decide +kernel)) (fun w h => hts w ((by decide +kernel : ∀ w ∈ (vx_atS RX1 46 "java/lang/IllegalStateException" wt_nm).filter goodWord, w ∈ wsX1_checkUnderWay) w h)) hE hw (by rw [hml]; exact hl.1) dX1_checkUnderWay_7 dX1_checkUnderWay_10 dX1_checkUnderWay_11 dX1_checkUnderWay_13 dX1_checkUnderWay_16 htab (Nat.le_of_ble_eq_true rfl) (Nat.le_of_ble_eq_true rfl) (Nat.le_of_ble_eq_true rfl) (Nat.le_of_ble_eq_true rfl) hlocks (Nat.le_of_ble_eq_true rfl) (Nat.le_of_ble_eq_true rfl) ⟨rfl, bc_2⟩
set_option maxHeartbeats 4000000 in
set_option maxRecDepth 100000 in
theorem m_X1_existingRide (l : Launch) (hnt : l.stackTraces = false) {G : wy_G} {L : List Nat} {f : Nat → va_E} {sz : Nat} {ox lo : Nat} {ra ar : Nat → Nat} {n : Nat} {km mn : Int32} {wk : Nat} {po : Nat → Int32} {rr : Nat → wr_V} (hq : wx_S G L f ox lo ra ar n km mn wk po rr) (p1 : Int32) : vx_Met l yX1_existingRide wsX1_existingRide ({ frames := 6, cells := 1, slots := 6, locals := 82 } : Room) (va_Pc [.ref ox, .int p1] (wt_P G L f sz)) (wy_Q G (wx_k L f (some (.ref (ra (ix p1)))) (okN n p1 = true)) (wy_A L sz)) (wt_X G (fun E => E = eI ∧ okN n p1 = false) L f (wy_A L sz)) 1 6 (wy_A L sz) := by
  refine vx_ofW (cc := cX1_existingRide) (maxL := 2) (ret := (some (.object "Wheelpay$Ride"))) (by decide) rfl ?_
  intro p e s m args below meth c s₁ B hml htab hv
  obtain ⟨rfl, hv, hE⟩ := hv
  obtain ⟨hw, hK, hA⟩ := wy_start hv
  have hsz := hv.1
  subst hsz
  have hx := B.exec
  have hb := B.bytes
  have hr := B.returns
  have hts := atoms_spec (ws := wsX1_existingRide) B.pre
  have hown : s.vm.findClass RX1 = some m.cls := findClass_of_methodNamed B.named
  have hlocks := B.notSynchronized
  have hinX1 : ∀ w ∈ wsX10, w ∈ wsX1_existingRide := by decide +kernel
  obtain ⟨md, he, cap, gg, hL1, -⟩ := id hq.2.1
  have hn : n ≤ 40 := hq.2.2.2.2.1
  have hwk : wk ≤ 20 := hq.2.2.2.2.2.1
  have hl := lv_entry ([.ref ox, .int p1]) (n := 2) (Nat.le_of_ble_eq_true rfl)
  rw [lg_entry_eq]
  generalize (lg_sl ([.ref ox, .int p1]) ++ List.replicate (2 - (lg_sl ([.ref ox, .int p1])).length) Slot.unset).toArray = ls at hl ⊢
  have hl : lv_has ls 2 [(0, .ref ox), (1, .int p1)] := hl
  refine lv_iload_n hx hb dX1_existingRide_0 rfl (lv_at hl 1 rfl) ?_
  refine lv_if_lt (tgt := 15) hx hb dX1_existingRide_1 (by decide) (fun c_1 => ?_) (fun c_1 => ?_)
  · exact wt_throw (is := 226) (text := "no such ride") wt_gdI wt_nbI (by decide) (by decide +kernel) hx hb hnt hown (by decide) (hts (.classLink RX1 224 "java/lang/IndexOutOfBoundsException") (by decide +kernel)) (hts (.initialized "java/lang/IndexOutOfBoundsException") (by decide +kernel)) (fun w h => hts w ((by decide +kernel : ∀ w ∈ (vx_atS RX1 228 "java/lang/IndexOutOfBoundsException" wt_nm).filter goodWord, w ∈ wsX1_existingRide) w h)) hE hw (by rw [hml]; exact hl.1) dX1_existingRide_15 dX1_existingRide_18 dX1_existingRide_19 dX1_existingRide_21 dX1_existingRide_24 htab (Nat.le_of_ble_eq_true rfl) (Nat.le_of_ble_eq_true rfl) (Nat.le_of_ble_eq_true rfl) (Nat.le_of_ble_eq_true rfl) hlocks (Nat.le_of_ble_eq_true rfl) (Nat.le_of_ble_eq_true rfl) ⟨rfl, by simp [okN, c_1]⟩
  · refine lv_iload_n hx hb dX1_existingRide_4 rfl (lv_at hl 1 rfl) ?_
    refine lv_aload_n hx hb dX1_existingRide_5 rfl (lv_at hl 0 rfl) ?_
    refine wy_get (ci := 2) (v := .ref lo) (C := RX1) (T := TX1) (N := 5) hx hb hts hinX1 hown hK hw.1 hq.1 rfl 0 (by decide) (hts (.fieldLink RX1 10 "Wheelpay" "rides" "Ljava/util/ArrayList;") (by decide +kernel)) (fun _ h9 => h9) rfl dX1_existingRide_6 ?_
    refine vp_callSi (W.runV (As := []) (rest := [.int p1]) ⟨hx, hb, hml, hown, hts⟩ (m_Jx4a65c_size_8abf5 l hq.2.1) (cwV 0 hts gX1_existingRide_Jx4a65c_size_8abf5 rfl rfl rfl (by decide +kernel) ⟨Nat.le_of_ble_eq_true rfl, Nat.le_of_ble_eq_true rfl⟩) (wy_pVR hK hw.1 hL1 rfl) rfl rfl hl.1 rfl (lv_room (Nat.le_of_ble_eq_true rfl)) dX1_existingRide_9 ⟨Nat.le_of_ble_eq_true rfl, Nat.le_of_ble_eq_true rfl⟩) (fun r_2 er_2 => ?_)
    obtain rfl := er_2
    refine lv_icmp_lt (tgt := 25) hx hb dX1_existingRide_12 (by decide) (fun c_3 => ?_) (fun c_3 => ?_)
    · have hok : okN n p1 = true := by simp [okN, c_1, c_3]
      obtain ⟨hk1, e1⟩ := okN_ix hok (by omega)
      refine lv_aload_n hx hb dX1_existingRide_25 rfl (lv_at hl 0 rfl) ?_
      refine wy_get (ci := 2) (v := .ref lo) (C := RX1) (T := TX1) (N := 5) hx hb hts hinX1 hown hK hw.1 hq.1 rfl 0 (by decide) (hts (.fieldLink RX1 10 "Wheelpay" "rides" "Ljava/util/ArrayList;") (by decide +kernel)) (fun _ h9 => h9) rfl dX1_existingRide_26 ?_
      refine lv_iload_n hx hb dX1_existingRide_29 rfl (lv_at hl 1 rfl) ?_
      refine va_csr (W.runV (As := [.int p1]) (rest := []) ⟨hx, hb, hml, hown, hts⟩ (m_Jx4a65c_get_915e3 l hq.2.1 (p1) ((ix p1)) (by omega) e1) (cwV 1 hts gX1_existingRide_Jx4a65c_get_915e3 rfl rfl rfl (by decide +kernel) ⟨Nat.le_of_ble_eq_true rfl, Nat.le_of_ble_eq_true rfl⟩) (wy_pVR hK hw.1 hL1 rfl) rfl rfl hl.1 rfl (lv_room (Nat.le_of_ble_eq_true rfl)) dX1_existingRide_30 ⟨Nat.le_of_ble_eq_true rfl, Nat.le_of_ble_eq_true rfl⟩) (fun r_4 er_4 => ?_)
      subst er_4
      refine wy_cast (ci := 1) hx hb hown (hts (.classLink RX1 55 "Wheelpay$Ride") (by decide +kernel)) hK hw.1 (hq.2.2.2.1 ((ix p1)) (by omega)).1 rfl dX1_existingRide_33 ?_
      exact vx_ret (wy_aW hx hb hr (Or.inl ⟨_, rfl⟩) hlocks dX1_existingRide_36 hw (Nat.le_of_ble_eq_true rfl) (Nat.le_of_ble_eq_true rfl) ⟨rfl, rfl, rfl, hok⟩)
    · exact wt_throw (is := 226) (text := "no such ride") wt_gdI wt_nbI (by decide) (by decide +kernel) hx hb hnt hown (by decide) (hts (.classLink RX1 224 "java/lang/IndexOutOfBoundsException") (by decide +kernel)) (hts (.initialized "java/lang/IndexOutOfBoundsException") (by decide +kernel)) (fun w h => hts w ((by decide +kernel : ∀ w ∈ (vx_atS RX1 228 "java/lang/IndexOutOfBoundsException" wt_nm).filter goodWord, w ∈ wsX1_existingRide) w h)) hE hw (by rw [hml]; exact hl.1) dX1_existingRide_15 dX1_existingRide_18 dX1_existingRide_19 dX1_existingRide_21 dX1_existingRide_24 htab (Nat.le_of_ble_eq_true rfl) (Nat.le_of_ble_eq_true rfl) (Nat.le_of_ble_eq_true rfl) (Nat.le_of_ble_eq_true rfl) hlocks (Nat.le_of_ble_eq_true rfl) (Nat.le_of_ble_eq_true rfl) ⟨rfl, by simp [okN, c_3]⟩
set_option maxHeartbeats 4000000 in
set_option maxRecDepth 100000 in
theorem m_X1_rideUnderWay (l : Launch) (hnt : l.stackTraces = false) {G : wy_G} {L : List Nat} {f : Nat → va_E} {sz : Nat} {ox lo : Nat} {ra ar : Nat → Nat} {n : Nat} {km mn : Int32} {wk : Nat} {po : Nat → Int32} {rr : Nat → wr_V} (hq : wx_S G L f ox lo ra ar n km mn wk po rr) (p1 p2 : Int32) : vx_Met l yX1_rideUnderWay wsX1_rideUnderWay ({ frames := 7, cells := 3, slots := 18, locals := 103 } : Room) (va_Pc [.ref ox, .int p1, .int p2] (wt_P G L f sz)) (wy_Q G (wx_k L f (some (.ref (ra (ix p1)))) (okN n p1 = true ∧ okN 10 p2 = true ∧ rfi (rr (ix p1)) = false)) (wy_A L sz)) (wt_X G (fun E => (E = eI ∧ (okN n p1 && okN 10 p2) = false) ∨ (E = eS ∧ (okN n p1 && okN 10 p2) = true ∧ rfi (rr (ix p1)) = true)) L f (wy_A L sz)) 3 18 (wy_A L sz) := by
  refine vx_ofW (cc := cX1_rideUnderWay) (maxL := 4) (ret := (some (.object "Wheelpay$Ride"))) (by decide) rfl ?_
  intro p e s m args below meth c s₁ B hml htab hv
  obtain ⟨rfl, hv, hE⟩ := hv
  obtain ⟨hw, hK, hA⟩ := wy_start hv
  have hsz := hv.1
  subst hsz
  have hx := B.exec
  have hb := B.bytes
  have hr := B.returns
  have hts := atoms_spec (ws := wsX1_rideUnderWay) B.pre
  have hown : s.vm.findClass RX1 = some m.cls := findClass_of_methodNamed B.named
  have hlocks := B.notSynchronized
  obtain ⟨md, he, cap, gg, hL1, -⟩ := id hq.2.1
  have hn : n ≤ 40 := hq.2.2.2.2.1
  have hwk : wk ≤ 20 := hq.2.2.2.2.2.1
  have hl := lv_entry ([.ref ox, .int p1, .int p2]) (n := 4) (Nat.le_of_ble_eq_true rfl)
  rw [lg_entry_eq]
  generalize (lg_sl ([.ref ox, .int p1, .int p2]) ++ List.replicate (4 - (lg_sl ([.ref ox, .int p1, .int p2])).length) Slot.unset).toArray = ls at hl ⊢
  have hl : lv_has ls 4 [(0, .ref ox), (1, .int p1), (2, .int p2)] := hl
  refine lv_aload_n hx hb dX1_rideUnderWay_0 rfl (lv_at hl 0 rfl) ?_
  refine lv_iload_n hx hb dX1_rideUnderWay_1 rfl (lv_at hl 1 rfl) ?_
  refine wt_call (fun E h => Or.inl ⟨h.1, by simp [h.2]⟩) (vx_runV (As := [.int p1]) (rest := []) ⟨hx, hb, hml, hown, hts⟩ (m_X1_existingRide l hnt hq (p1)) (cwV 1 hts gX1_rideUnderWay_X1_existingRide rfl rfl rfl (by decide +kernel) ⟨Nat.le_of_ble_eq_true rfl, Nat.le_of_ble_eq_true rfl⟩) (wt_pV hK hE hw hA hq.1 rfl) rfl rfl hl.1 rfl (lv_room (Nat.le_of_ble_eq_true rfl)) dX1_rideUnderWay_2 ⟨Nat.le_of_ble_eq_true rfl, Nat.le_of_ble_eq_true rfl⟩) hw hA htab hlocks (Nat.le_of_ble_eq_true rfl) (Nat.le_of_ble_eq_true rfl) (fun rw_1 Lw_1 fw_1 H locs hpost hw => ?_)
  obtain ⟨er_1, eL_1, ef_1, hok1⟩ := hpost
  subst er_1
  obtain rfl := eL_1.symm
  obtain rfl := ef_1.symm
  obtain ⟨hk1, e1⟩ := okN_ix hok1 (by omega)
  refine lv_astore_n (lv' := [(3, .ref (ra (ix p1))), (0, .ref ox), (1, .int p1), (2, .int p2)]) hx hb dX1_rideUnderWay_5 rfl hl (by decide) rfl (fun ls hl => ?_)
  refine lv_iload_n hx hb dX1_rideUnderWay_6 rfl (lv_at hl 3 rfl) ?_
  refine wt_call (fun E h => Or.inl ⟨h.1, by simp [h.2, hok1]⟩) (vx_runS (As := [.int p2]) (rest := []) ⟨hx, hb, hml, hown, hts⟩ (m_X1_checkRider l hnt (G := G) (L := L) (f := f) (p2)) (va_cwS 1 hts gX1_rideUnderWay_X1_checkRider rfl rfl rfl (by decide +kernel) ⟨Nat.le_of_ble_eq_true rfl, Nat.le_of_ble_eq_true rfl⟩) (wt_pS hK hE hw hA) rfl rfl hl.1 rfl (lv_room (Nat.le_of_ble_eq_true rfl)) dX1_rideUnderWay_7 ⟨Nat.le_of_ble_eq_true rfl, Nat.le_of_ble_eq_true rfl⟩) hw hA htab hlocks (Nat.le_of_ble_eq_true rfl) (Nat.le_of_ble_eq_true rfl) (fun rw_2 Lw_2 fw_2 H locs hpost hw => ?_)
  obtain ⟨er_2, eL_2, ef_2, hok2⟩ := hpost
  subst er_2
  obtain rfl := eL_2.symm
  obtain rfl := ef_2.symm
  obtain ⟨hr10, e2⟩ := okN_ix hok2 (by omega)
  refine lv_aload_n hx hb dX1_rideUnderWay_10 rfl (lv_at hl 0 rfl) ?_
  refine wt_call (fun E h => Or.inr ⟨h.1, by simp [hok1, hok2], h.2⟩) (vx_runS (As := [.ref (ra (ix p1))]) (rest := []) ⟨hx, hb, hml, hown, hts⟩ (m_X1_checkUnderWay l hnt (hq.2.2.2.1 (ix p1) (by omega))) (va_cwS 1 hts gX1_rideUnderWay_X1_checkUnderWay rfl rfl rfl (by decide +kernel) ⟨Nat.le_of_ble_eq_true rfl, Nat.le_of_ble_eq_true rfl⟩) (wt_pS hK hE hw hA) rfl rfl hl.1 rfl (lv_room (Nat.le_of_ble_eq_true rfl)) dX1_rideUnderWay_11 ⟨Nat.le_of_ble_eq_true rfl, Nat.le_of_ble_eq_true rfl⟩) hw hA htab hlocks (Nat.le_of_ble_eq_true rfl) (Nat.le_of_ble_eq_true rfl) (fun rw_3 Lw_3 fw_3 H locs hpost hw => ?_)
  obtain ⟨er_3, eL_3, ef_3, hfin⟩ := hpost
  subst er_3
  obtain rfl := eL_3.symm
  obtain rfl := ef_3.symm
  refine lv_aload_n hx hb dX1_rideUnderWay_14 rfl (lv_at hl 0 rfl) ?_
  exact vx_ret (wy_aW hx hb hr (Or.inl ⟨_, rfl⟩) hlocks dX1_rideUnderWay_15 hw (Nat.le_of_ble_eq_true rfl) (Nat.le_of_ble_eq_true rfl) ⟨rfl, rfl, rfl, hok1, hok2, hfin⟩)
