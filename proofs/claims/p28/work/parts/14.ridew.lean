set_option maxHeartbeats 4000000 in
set_option maxRecDepth 100000 in
theorem m_X0_addBooking (l : Launch) {G : wy_G} {L : List Nat} {f : Nat → va_E} {ha ca da : Nat} {vv : wr_V} {sz : Nat} (hq : wr_o G L f ha ca da vv) (p1 : Int32) (k : Nat) (hk : k < 10) (e1 : p1 = nI k) : Met l yX0_addBooking wsX0_addBooking ({ frames := 0, cells := 0, slots := 0, locals := 0 } : Room) (va_Pc [.ref ha, .int p1] (wy_W G L f sz)) (wy_Q G (wr_p G L f ha ca da (vBook vv k) (none)) (wy_A L sz)) 0 0 (wy_A L sz) := by
  refine Met.ofW (cc := cX0_addBooking) (maxL := 2) (ret := none) (by decide) rfl ?_
  intro p e s m args below meth c s₁ B hml hv
  obtain ⟨rfl, hv⟩ := hv
  obtain ⟨hw, hK, hA⟩ := wy_start hv
  have hsz := hv.1
  subst hsz
  have hx := B.exec
  have hb := B.bytes
  have hr := B.returns
  have hts := atoms_spec (ws := wsX0_addBooking) B.pre
  have hown : s.vm.findClass RX0 = some m.cls := findClass_of_methodNamed B.named
  have hlocks := B.notSynchronized
  have hinX0 : ∀ w ∈ wsX00, w ∈ wsX0_addBooking := by decide +kernel
  have hl := lv_entry ([.ref ha, .int p1]) (n := 2) (Nat.le_of_ble_eq_true rfl)
  rw [lg_entry_eq]
  generalize (lg_sl ([.ref ha, .int p1]) ++ List.replicate (2 - (lg_sl ([.ref ha, .int p1])).length) Slot.unset).toArray = ls at hl ⊢
  have hl : lv_has ls 2 [(0, .ref ha), (1, .int p1)] := hl
  refine lv_aload_n hx hb dX0_addBooking_0 rfl (lv_at hl 0 rfl) ?_
  refine lv_dup hx hb dX0_addBooking_1 rfl ?_
  refine wy_get (ci := 1) (v := .int (mks (rbk vv))) (C := RX0) (T := TX0) (N := 11) hx hb hts hinX0 hown hK hw.1 hq.1 rfl 6 (by decide) (hts (.fieldLink RX0 29 "Wheelpay$Ride" "booked" "I") (by decide +kernel)) (fun _ h9 => h9) rfl dX0_addBooking_2 ?_
  refine lv_iconst (v := 1) hx hb dX0_addBooking_5 (by decide) ?_
  refine lv_iload_n hx hb dX0_addBooking_6 rfl (lv_at hl 1 rfl) ?_
  refine lv_ishl hx hb dX0_addBooking_7 ?_
  refine lv_topi (fun x_1 ex_1 => ?_)
  refine lv_ior hx hb dX0_addBooking_8 ?_
  refine lv_topi (fun x_2 ex_2 => ?_)
  obtain rfl : x_2 = mks (va_up (rbk vv) k true) := by simp only [ex_1, ex_2, e1]; exact mks_or _ hk
  refine wy_put (ci := 1) (v := .int (mks (va_up (rbk vv) k true))) (ty := .int) (C := RX0) (T := TX0) (N := 11) hx hb hts hinX0 tyX0 tyX0_ok nmX0 hown hK hw hq.1 rfl 6 (by decide) (hts (.fieldLink RX0 29 "Wheelpay$Ride" "booked" "I") (by decide +kernel)) (fun _ h9 => h9) rfl (by decide +kernel) rfl rfl (Nat.le_of_ble_eq_true rfl) dX0_addBooking_9 (fun H locs f_3 hs_4 hn_5 hw => ?_)
  have hc_6 := wy_c.ne2 hq.2.1 hn_5 hq.2.2.2.1.symm
  have hc_7 := wy_c.ne2 hq.2.2.1 hn_5 hq.2.2.2.2.1.symm
  have hc_8 : wy_c L f_3 ha (.inr (1, [.int (rdv vv), .int (rwk vv), .ref ca, .ref da, .int (rmi vv), .int (bI (rfi vv)), .int (mks (va_up (rbk vv) k true)), .int (mks (rsd vv)), .int (mks (rdp vv)), .int (mks (rse vv)), .int (mks (rfa vv))])) := hs_4
  exact wy_vW hx hb hr hlocks dX0_addBooking_12 hw (Nat.le_of_ble_eq_true rfl) (Nat.le_of_ble_eq_true rfl) ⟨rfl, rfl, ⟨hc_8, hc_6, hc_7, hq.2.2.2⟩, (fun z u0 u1 u2 => (hn_5 z u0))⟩
set_option maxHeartbeats 4000000 in
set_option maxRecDepth 100000 in
theorem m_X0_addDispute (l : Launch) {G : wy_G} {L : List Nat} {f : Nat → va_E} {ha ca da : Nat} {vv : wr_V} {sz : Nat} (hq : wr_o G L f ha ca da vv) (p1 : Int32) (k : Nat) (hk : k < 10) (e1 : p1 = nI k) : Met l yX0_addDispute wsX0_addDispute ({ frames := 0, cells := 0, slots := 0, locals := 0 } : Room) (va_Pc [.ref ha, .int p1] (wy_W G L f sz)) (wy_Q G (wr_p G L f ha ca da (vDis vv k) (none)) (wy_A L sz)) 0 0 (wy_A L sz) := by
  refine Met.ofW (cc := cX0_addDispute) (maxL := 2) (ret := none) (by decide) rfl ?_
  intro p e s m args below meth c s₁ B hml hv
  obtain ⟨rfl, hv⟩ := hv
  obtain ⟨hw, hK, hA⟩ := wy_start hv
  have hsz := hv.1
  subst hsz
  have hx := B.exec
  have hb := B.bytes
  have hr := B.returns
  have hts := atoms_spec (ws := wsX0_addDispute) B.pre
  have hown : s.vm.findClass RX0 = some m.cls := findClass_of_methodNamed B.named
  have hlocks := B.notSynchronized
  have hinX0 : ∀ w ∈ wsX00, w ∈ wsX0_addDispute := by decide +kernel
  have hl := lv_entry ([.ref ha, .int p1]) (n := 2) (Nat.le_of_ble_eq_true rfl)
  rw [lg_entry_eq]
  generalize (lg_sl ([.ref ha, .int p1]) ++ List.replicate (2 - (lg_sl ([.ref ha, .int p1])).length) Slot.unset).toArray = ls at hl ⊢
  have hl : lv_has ls 2 [(0, .ref ha), (1, .int p1)] := hl
  refine lv_aload_n hx hb dX0_addDispute_0 rfl (lv_at hl 0 rfl) ?_
  refine lv_dup hx hb dX0_addDispute_1 rfl ?_
  refine wy_get (ci := 1) (v := .int (mks (rdp vv))) (C := RX0) (T := TX0) (N := 11) hx hb hts hinX0 hown hK hw.1 hq.1 rfl 8 (by decide) (hts (.fieldLink RX0 39 "Wheelpay$Ride" "disputed" "I") (by decide +kernel)) (fun _ h9 => h9) rfl dX0_addDispute_2 ?_
  refine lv_iconst (v := 1) hx hb dX0_addDispute_5 (by decide) ?_
  refine lv_iload_n hx hb dX0_addDispute_6 rfl (lv_at hl 1 rfl) ?_
  refine lv_ishl hx hb dX0_addDispute_7 ?_
  refine lv_topi (fun x_1 ex_1 => ?_)
  refine lv_ior hx hb dX0_addDispute_8 ?_
  refine lv_topi (fun x_2 ex_2 => ?_)
  obtain rfl : x_2 = mks (va_up (rdp vv) k true) := by simp only [ex_1, ex_2, e1]; exact mks_or _ hk
  refine wy_put (ci := 1) (v := .int (mks (va_up (rdp vv) k true))) (ty := .int) (C := RX0) (T := TX0) (N := 11) hx hb hts hinX0 tyX0 tyX0_ok nmX0 hown hK hw hq.1 rfl 8 (by decide) (hts (.fieldLink RX0 39 "Wheelpay$Ride" "disputed" "I") (by decide +kernel)) (fun _ h9 => h9) rfl (by decide +kernel) rfl rfl (Nat.le_of_ble_eq_true rfl) dX0_addDispute_9 (fun H locs f_3 hs_4 hn_5 hw => ?_)
  have hc_6 := wy_c.ne2 hq.2.1 hn_5 hq.2.2.2.1.symm
  have hc_7 := wy_c.ne2 hq.2.2.1 hn_5 hq.2.2.2.2.1.symm
  have hc_8 : wy_c L f_3 ha (.inr (1, [.int (rdv vv), .int (rwk vv), .ref ca, .ref da, .int (rmi vv), .int (bI (rfi vv)), .int (mks (rbk vv)), .int (mks (rsd vv)), .int (mks (va_up (rdp vv) k true)), .int (mks (rse vv)), .int (mks (rfa vv))])) := hs_4
  exact wy_vW hx hb hr hlocks dX0_addDispute_12 hw (Nat.le_of_ble_eq_true rfl) (Nat.le_of_ble_eq_true rfl) ⟨rfl, rfl, ⟨hc_8, hc_6, hc_7, hq.2.2.2⟩, (fun z u0 u1 u2 => (hn_5 z u0))⟩
set_option maxHeartbeats 4000000 in
set_option maxRecDepth 100000 in
theorem m_X0_letOut (l : Launch) {G : wy_G} {L : List Nat} {f : Nat → va_E} {ha ca da : Nat} {vv : wr_V} {sz : Nat} (hq : wr_o G L f ha ca da vv) (p1 : Int32) (k : Nat) (hk : k < 10) (e1 : p1 = nI k) : Met l yX0_letOut wsX0_letOut ({ frames := 0, cells := 0, slots := 0, locals := 0 } : Room) (va_Pc [.ref ha, .int p1] (wy_W G L f sz)) (wy_Q G (wr_p G L f ha ca da (vOut vv k) (none)) (wy_A L sz)) 0 0 (wy_A L sz) := by
  refine Met.ofW (cc := cX0_letOut) (maxL := 2) (ret := none) (by decide) rfl ?_
  intro p e s m args below meth c s₁ B hml hv
  obtain ⟨rfl, hv⟩ := hv
  obtain ⟨hw, hK, hA⟩ := wy_start hv
  have hsz := hv.1
  subst hsz
  have hx := B.exec
  have hb := B.bytes
  have hr := B.returns
  have hts := atoms_spec (ws := wsX0_letOut) B.pre
  have hown : s.vm.findClass RX0 = some m.cls := findClass_of_methodNamed B.named
  have hlocks := B.notSynchronized
  have hinX0 : ∀ w ∈ wsX00, w ∈ wsX0_letOut := by decide +kernel
  have hl := lv_entry ([.ref ha, .int p1]) (n := 2) (Nat.le_of_ble_eq_true rfl)
  rw [lg_entry_eq]
  generalize (lg_sl ([.ref ha, .int p1]) ++ List.replicate (2 - (lg_sl ([.ref ha, .int p1])).length) Slot.unset).toArray = ls at hl ⊢
  have hl : lv_has ls 2 [(0, .ref ha), (1, .int p1)] := hl
  refine lv_aload_n hx hb dX0_letOut_0 rfl (lv_at hl 0 rfl) ?_
  refine lv_dup hx hb dX0_letOut_1 rfl ?_
  refine wy_get (ci := 1) (v := .int (mks (rsd vv))) (C := RX0) (T := TX0) (N := 11) hx hb hts hinX0 hown hK hw.1 hq.1 rfl 7 (by decide) (hts (.fieldLink RX0 36 "Wheelpay$Ride" "seated" "I") (by decide +kernel)) (fun _ h9 => h9) rfl dX0_letOut_2 ?_
  refine lv_iconst (v := 1) hx hb dX0_letOut_5 (by decide) ?_
  refine lv_iload_n hx hb dX0_letOut_6 rfl (lv_at hl 1 rfl) ?_
  refine lv_ishl hx hb dX0_letOut_7 ?_
  refine lv_topi (fun x_1 ex_1 => ?_)
  refine lv_iconst (v := (-1)) hx hb dX0_letOut_8 (by decide) ?_
  refine lv_ixor hx hb dX0_letOut_9 ?_
  refine lv_topi (fun x_2 ex_2 => ?_)
  refine lv_iand hx hb dX0_letOut_10 ?_
  refine lv_topi (fun x_3 ex_3 => ?_)
  obtain rfl : x_3 = mks (va_up (rsd vv) k false) := by simp only [ex_1, ex_2, ex_3, e1]; exact mks_andn _ hk
  refine wy_put (ci := 1) (v := .int (mks (va_up (rsd vv) k false))) (ty := .int) (C := RX0) (T := TX0) (N := 11) hx hb hts hinX0 tyX0 tyX0_ok nmX0 hown hK hw hq.1 rfl 7 (by decide) (hts (.fieldLink RX0 36 "Wheelpay$Ride" "seated" "I") (by decide +kernel)) (fun _ h9 => h9) rfl (by decide +kernel) rfl rfl (Nat.le_of_ble_eq_true rfl) dX0_letOut_11 (fun H locs f_4 hs_5 hn_6 hw => ?_)
  have hc_7 := wy_c.ne2 hq.2.1 hn_6 hq.2.2.2.1.symm
  have hc_8 := wy_c.ne2 hq.2.2.1 hn_6 hq.2.2.2.2.1.symm
  have hc_9 : wy_c L f_4 ha (.inr (1, [.int (rdv vv), .int (rwk vv), .ref ca, .ref da, .int (rmi vv), .int (bI (rfi vv)), .int (mks (rbk vv)), .int (mks (va_up (rsd vv) k false)), .int (mks (rdp vv)), .int (mks (rse vv)), .int (mks (rfa vv))])) := hs_5
  exact wy_vW hx hb hr hlocks dX0_letOut_14 hw (Nat.le_of_ble_eq_true rfl) (Nat.le_of_ble_eq_true rfl) ⟨rfl, rfl, ⟨hc_9, hc_7, hc_8, hq.2.2.2⟩, (fun z u0 u1 u2 => (hn_6 z u0))⟩
set_option maxHeartbeats 4000000 in
set_option maxRecDepth 100000 in
theorem m_X0_takeAboard (l : Launch) {G : wy_G} {L : List Nat} {f : Nat → va_E} {ha ca da : Nat} {vv : wr_V} {sz : Nat} (hq : wr_o G L f ha ca da vv) (p1 : Int32) (k : Nat) (hk : k < 10) (e1 : p1 = nI k) : Met l yX0_takeAboard wsX0_takeAboard ({ frames := 1, cells := 0, slots := 0, locals := 20 } : Room) (va_Pc [.ref ha, .int p1] (wy_W G L f sz)) (wy_Q G (wr_p G L f ha ca da (vTake vv k) (some (.int (nI (cb (va_up (rsd vv) k true) 10))))) (wy_A L sz)) 0 0 (wy_A L sz) := by
  refine Met.ofW (cc := cX0_takeAboard) (maxL := 2) (ret := (some .int)) (by decide) rfl ?_
  intro p e s m args below meth c s₁ B hml hv
  obtain ⟨rfl, hv⟩ := hv
  obtain ⟨hw, hK, hA⟩ := wy_start hv
  have hsz := hv.1
  subst hsz
  have hx := B.exec
  have hb := B.bytes
  have hr := B.returns
  have hts := atoms_spec (ws := wsX0_takeAboard) B.pre
  have hown : s.vm.findClass RX0 = some m.cls := findClass_of_methodNamed B.named
  have hlocks := B.notSynchronized
  have hinX0 : ∀ w ∈ wsX00, w ∈ wsX0_takeAboard := by decide +kernel
  have hl := lv_entry ([.ref ha, .int p1]) (n := 2) (Nat.le_of_ble_eq_true rfl)
  rw [lg_entry_eq]
  generalize (lg_sl ([.ref ha, .int p1]) ++ List.replicate (2 - (lg_sl ([.ref ha, .int p1])).length) Slot.unset).toArray = ls at hl ⊢
  have hl : lv_has ls 2 [(0, .ref ha), (1, .int p1)] := hl
  refine lv_aload_n hx hb dX0_takeAboard_0 rfl (lv_at hl 0 rfl) ?_
  refine lv_dup hx hb dX0_takeAboard_1 rfl ?_
  refine wy_get (ci := 1) (v := .int (mks (rbk vv))) (C := RX0) (T := TX0) (N := 11) hx hb hts hinX0 hown hK hw.1 hq.1 rfl 6 (by decide) (hts (.fieldLink RX0 29 "Wheelpay$Ride" "booked" "I") (by decide +kernel)) (fun _ h9 => h9) rfl dX0_takeAboard_2 ?_
  refine lv_iconst (v := 1) hx hb dX0_takeAboard_5 (by decide) ?_
  refine lv_iload_n hx hb dX0_takeAboard_6 rfl (lv_at hl 1 rfl) ?_
  refine lv_ishl hx hb dX0_takeAboard_7 ?_
  refine lv_topi (fun x_1 ex_1 => ?_)
  refine lv_iconst (v := (-1)) hx hb dX0_takeAboard_8 (by decide) ?_
  refine lv_ixor hx hb dX0_takeAboard_9 ?_
  refine lv_topi (fun x_2 ex_2 => ?_)
  refine lv_iand hx hb dX0_takeAboard_10 ?_
  refine lv_topi (fun x_3 ex_3 => ?_)
  obtain rfl : x_3 = mks (va_up (rbk vv) k false) := by simp only [ex_1, ex_2, ex_3, e1]; exact mks_andn _ hk
  refine wy_put (ci := 1) (v := .int (mks (va_up (rbk vv) k false))) (ty := .int) (C := RX0) (T := TX0) (N := 11) hx hb hts hinX0 tyX0 tyX0_ok nmX0 hown hK hw hq.1 rfl 6 (by decide) (hts (.fieldLink RX0 29 "Wheelpay$Ride" "booked" "I") (by decide +kernel)) (fun _ h9 => h9) rfl (by decide +kernel) rfl rfl (Nat.le_of_ble_eq_true rfl) dX0_takeAboard_11 (fun H locs f_4 hs_5 hn_6 hw => ?_)
  have hc_7 := wy_c.ne2 hq.2.1 hn_6 hq.2.2.2.1.symm
  have hc_8 := wy_c.ne2 hq.2.2.1 hn_6 hq.2.2.2.2.1.symm
  have hc_9 : wy_c L f_4 ha (.inr (1, [.int (rdv vv), .int (rwk vv), .ref ca, .ref da, .int (rmi vv), .int (bI (rfi vv)), .int (mks (va_up (rbk vv) k false)), .int (mks (rsd vv)), .int (mks (rdp vv)), .int (mks (rse vv)), .int (mks (rfa vv))])) := hs_5
  refine lv_aload_n hx hb dX0_takeAboard_14 rfl (lv_at hl 0 rfl) ?_
  refine lv_dup hx hb dX0_takeAboard_15 rfl ?_
  refine wy_get (ci := 1) (v := .int (mks (rsd vv))) (C := RX0) (T := TX0) (N := 11) hx hb hts hinX0 hown hK hw.1 hc_9 rfl 7 (by decide) (hts (.fieldLink RX0 36 "Wheelpay$Ride" "seated" "I") (by decide +kernel)) (fun _ h9 => h9) rfl dX0_takeAboard_16 ?_
  refine lv_iconst (v := 1) hx hb dX0_takeAboard_19 (by decide) ?_
  refine lv_iload_n hx hb dX0_takeAboard_20 rfl (lv_at hl 1 rfl) ?_
  refine lv_ishl hx hb dX0_takeAboard_21 ?_
  refine lv_topi (fun x_10 ex_10 => ?_)
  refine lv_ior hx hb dX0_takeAboard_22 ?_
  refine lv_topi (fun x_11 ex_11 => ?_)
  obtain rfl : x_11 = mks (va_up (rsd vv) k true) := by simp only [ex_1, ex_2, ex_10, ex_11, e1]; exact mks_or _ hk
  refine wy_put (ci := 1) (v := .int (mks (va_up (rsd vv) k true))) (ty := .int) (C := RX0) (T := TX0) (N := 11) hx hb hts hinX0 tyX0 tyX0_ok nmX0 hown hK hw hc_9 rfl 7 (by decide) (hts (.fieldLink RX0 36 "Wheelpay$Ride" "seated" "I") (by decide +kernel)) (fun _ h9 => h9) rfl (by decide +kernel) rfl rfl (Nat.le_of_ble_eq_true rfl) dX0_takeAboard_23 (fun H locs f_12 hs_13 hn_14 hw => ?_)
  have hc_15 := wy_c.ne2 hc_7 hn_14 hq.2.2.2.1.symm
  have hc_16 := wy_c.ne2 hc_8 hn_14 hq.2.2.2.2.1.symm
  have hc_17 : wy_c L f_12 ha (.inr (1, [.int (rdv vv), .int (rwk vv), .ref ca, .ref da, .int (rmi vv), .int (bI (rfi vv)), .int (mks (va_up (rbk vv) k false)), .int (mks (va_up (rsd vv) k true)), .int (mks (rdp vv)), .int (mks (rse vv)), .int (mks (rfa vv))])) := hs_13
  refine lv_aload_n hx hb dX0_takeAboard_26 rfl (lv_at hl 0 rfl) ?_
  refine wy_get (ci := 1) (v := .int (mks (va_up (rsd vv) k true))) (C := RX0) (T := TX0) (N := 11) hx hb hts hinX0 hown hK hw.1 hc_17 rfl 7 (by decide) (hts (.fieldLink RX0 36 "Wheelpay$Ride" "seated" "I") (by decide +kernel)) (fun _ h9 => h9) rfl dX0_takeAboard_27 ?_
  refine vp_callSi (W.runS (As := [.int (mks (va_up (rsd vv) k true))]) (rest := []) ⟨hx, hb, hml, hown, hts⟩ (m_J6_bitCount_0f7a4 l (mks (va_up (rsd vv) k true))) (va_cwS 1 hts gX0_takeAboard_J6_bitCount_0f7a4 rfl rfl rfl (by decide +kernel) ⟨Nat.le_of_ble_eq_true rfl, Nat.le_of_ble_eq_true rfl⟩) (wy_pSN) rfl rfl hl.1 rfl (lv_room (Nat.le_of_ble_eq_true rfl)) dX0_takeAboard_30 ⟨Nat.le_of_ble_eq_true rfl, Nat.le_of_ble_eq_true rfl⟩) (fun r_18 er_18 => ?_)
  have nr_18 : r_18 = nI (cb (va_up (rsd vv) k true) 10) := er_18.trans (bcf_mks _)
  exact wy_iW hx hb hr hlocks dX0_takeAboard_33 hw (Nat.le_of_ble_eq_true rfl) (Nat.le_of_ble_eq_true rfl) ⟨by rw [nr_18], rfl, ⟨hc_17, hc_15, hc_16, hq.2.2.2⟩, (fun z u0 u1 u2 => ((hn_14 z u0).trans (hn_6 z u0)))⟩
set_option maxHeartbeats 4000000 in
set_option maxRecDepth 100000 in
theorem m_X0_dropBooking (l : Launch) {G : wy_G} {L : List Nat} {f : Nat → va_E} {ha ca da : Nat} {vv : wr_V} {sz : Nat} (hq : wr_o G L f ha ca da vv) (p1 : Int32) (k : Nat) (hk : k < 10) (e1 : p1 = nI k) : Met l yX0_dropBooking wsX0_dropBooking ({ frames := 0, cells := 0, slots := 0, locals := 0 } : Room) (va_Pc [.ref ha, .int p1] (wy_W G L f sz)) (wy_Q G (wr_p G L f ha ca da (vDrop vv k) (some (.int (feeR vv)))) (wy_A L sz)) 0 0 (wy_A L sz) := by
  refine Met.ofW (cc := cX0_dropBooking) (maxL := 3) (ret := (some .int)) (by decide) rfl ?_
  intro p e s m args below meth c s₁ B hml hv
  obtain ⟨rfl, hv⟩ := hv
  obtain ⟨hw, hK, hA⟩ := wy_start hv
  have hsz := hv.1
  subst hsz
  have hx := B.exec
  have hb := B.bytes
  have hr := B.returns
  have hts := atoms_spec (ws := wsX0_dropBooking) B.pre
  have hown : s.vm.findClass RX0 = some m.cls := findClass_of_methodNamed B.named
  have hlocks := B.notSynchronized
  have hinX0 : ∀ w ∈ wsX00, w ∈ wsX0_dropBooking := by decide +kernel
  have hl := lv_entry ([.ref ha, .int p1]) (n := 3) (Nat.le_of_ble_eq_true rfl)
  rw [lg_entry_eq]
  generalize (lg_sl ([.ref ha, .int p1]) ++ List.replicate (3 - (lg_sl ([.ref ha, .int p1])).length) Slot.unset).toArray = ls at hl ⊢
  have hl : lv_has ls 3 [(0, .ref ha), (1, .int p1)] := hl
  refine lv_aload_n hx hb dX0_dropBooking_0 rfl (lv_at hl 0 rfl) ?_
  refine lv_dup hx hb dX0_dropBooking_1 rfl ?_
  refine wy_get (ci := 1) (v := .int (mks (rbk vv))) (C := RX0) (T := TX0) (N := 11) hx hb hts hinX0 hown hK hw.1 hq.1 rfl 6 (by decide) (hts (.fieldLink RX0 29 "Wheelpay$Ride" "booked" "I") (by decide +kernel)) (fun _ h9 => h9) rfl dX0_dropBooking_2 ?_
  refine lv_iconst (v := 1) hx hb dX0_dropBooking_5 (by decide) ?_
  refine lv_iload_n hx hb dX0_dropBooking_6 rfl (lv_at hl 1 rfl) ?_
  refine lv_ishl hx hb dX0_dropBooking_7 ?_
  refine lv_topi (fun x_1 ex_1 => ?_)
  refine lv_iconst (v := (-1)) hx hb dX0_dropBooking_8 (by decide) ?_
  refine lv_ixor hx hb dX0_dropBooking_9 ?_
  refine lv_topi (fun x_2 ex_2 => ?_)
  refine lv_iand hx hb dX0_dropBooking_10 ?_
  refine lv_topi (fun x_3 ex_3 => ?_)
  obtain rfl : x_3 = mks (va_up (rbk vv) k false) := by simp only [ex_1, ex_2, ex_3, e1]; exact mks_andn _ hk
  refine wy_put (ci := 1) (v := .int (mks (va_up (rbk vv) k false))) (ty := .int) (C := RX0) (T := TX0) (N := 11) hx hb hts hinX0 tyX0 tyX0_ok nmX0 hown hK hw hq.1 rfl 6 (by decide) (hts (.fieldLink RX0 29 "Wheelpay$Ride" "booked" "I") (by decide +kernel)) (fun _ h9 => h9) rfl (by decide +kernel) rfl rfl (Nat.le_of_ble_eq_true rfl) dX0_dropBooking_11 (fun H locs f_4 hs_5 hn_6 hw => ?_)
  have hc_7 := wy_c.ne2 hq.2.1 hn_6 hq.2.2.2.1.symm
  have hc_8 := wy_c.ne2 hq.2.2.1 hn_6 hq.2.2.2.2.1.symm
  have hc_9 : wy_c L f_4 ha (.inr (1, [.int (rdv vv), .int (rwk vv), .ref ca, .ref da, .int (rmi vv), .int (bI (rfi vv)), .int (mks (va_up (rbk vv) k false)), .int (mks (rsd vv)), .int (mks (rdp vv)), .int (mks (rse vv)), .int (mks (rfa vv))])) := hs_5
  refine lv_aload_n hx hb dX0_dropBooking_14 rfl (lv_at hl 0 rfl) ?_
  refine wy_get (ci := 1) (v := .int (rmi vv)) (C := RX0) (T := TX0) (N := 11) hx hb hts hinX0 hown hK hw.1 hc_9 rfl 4 (by decide) (hts (.fieldLink RX0 51 "Wheelpay$Ride" "minutes" "I") (by decide +kernel)) (fun _ h9 => h9) rfl dX0_dropBooking_15 ?_
  refine lv_if_ne (tgt := 25) hx hb dX0_dropBooking_18 (by decide) (fun c_10 => ?_) (fun c_10 => ?_)
  · refine lv_sipush (v := 250) hx hb dX0_dropBooking_25 (by decide) ?_
    have hfee : (250 : Int32) = feeR vv := by simp [feeR, c_10]
    rw [hfee]
    refine lv_istore_n (lv' := [(2, .int (feeR vv)), (0, .ref ha), (1, .int p1)]) hx hb dX0_dropBooking_28 rfl hl (by decide) rfl (fun ls hl => ?_)
    refine lv_aload_n hx hb dX0_dropBooking_29 rfl (lv_at hl 1 rfl) ?_
    refine wy_get (ci := 1) (v := .ref ca) (C := RX0) (T := TX0) (N := 11) hx hb hts hinX0 hown hK hw.1 hc_9 rfl 2 (by decide) (hts (.fieldLink RX0 18 "Wheelpay$Ride" "charges" "[I") (by decide +kernel)) (fun _ h9 => h9) rfl dX0_dropBooking_30 ?_
    refine lv_iload_n hx hb dX0_dropBooking_33 rfl (lv_at hl 2 rfl) ?_
    refine lv_dup2_11 hx hb dX0_dropBooking_34 rfl rfl ?_
    refine wy_iald hx hb hK hw.1 hc_7 (k) e1 (by omega) (by omega) dX0_dropBooking_35 ?_
    refine lv_iload_n hx hb dX0_dropBooking_36 rfl (lv_at hl 0 rfl) ?_
    refine lv_iadd hx hb dX0_dropBooking_37 ?_
    refine lv_topi (fun x_11 ex_11 => ?_)
    obtain rfl : x_11 = rch vv k + feeR vv := by simp only [ex_1, ex_2, ex_11]
    refine wy_iast hx hb hK hw hc_7 (k) e1 (by omega) (by omega) dX0_dropBooking_38 (fun H locs f_12 hs_13 hn_14 hw => ?_)
    have hc_15 := wy_c.ne2 hc_9 hn_14 hq.2.2.2.1
    have hc_16 := wy_c.ne2 hc_8 hn_14 hq.2.2.2.2.2.symm
    refine lv_iload_n hx hb dX0_dropBooking_39 rfl (lv_at hl 0 rfl) ?_
    exact wy_iW hx hb hr hlocks dX0_dropBooking_40 hw (Nat.le_of_ble_eq_true rfl) (Nat.le_of_ble_eq_true rfl) ⟨rfl, rfl, ⟨hc_15, hs_13, hc_16, hq.2.2.2⟩, (fun z u0 u1 u2 => ((hn_14 z u1).trans (hn_6 z u0)))⟩
  · refine lv_iconst (v := 0) hx hb dX0_dropBooking_21 (by decide) ?_
    refine lv_goto (tgt := 28) hx hb dX0_dropBooking_22 (by decide) ?_
    have hfee : (0 : Int32) = feeR vv := by simp [feeR, c_10]
    rw [hfee]
    refine lv_istore_n (lv' := [(2, .int (feeR vv)), (0, .ref ha), (1, .int p1)]) hx hb dX0_dropBooking_28 rfl hl (by decide) rfl (fun ls hl => ?_)
    refine lv_aload_n hx hb dX0_dropBooking_29 rfl (lv_at hl 1 rfl) ?_
    refine wy_get (ci := 1) (v := .ref ca) (C := RX0) (T := TX0) (N := 11) hx hb hts hinX0 hown hK hw.1 hc_9 rfl 2 (by decide) (hts (.fieldLink RX0 18 "Wheelpay$Ride" "charges" "[I") (by decide +kernel)) (fun _ h9 => h9) rfl dX0_dropBooking_30 ?_
    refine lv_iload_n hx hb dX0_dropBooking_33 rfl (lv_at hl 2 rfl) ?_
    refine lv_dup2_11 hx hb dX0_dropBooking_34 rfl rfl ?_
    refine wy_iald hx hb hK hw.1 hc_7 (k) e1 (by omega) (by omega) dX0_dropBooking_35 ?_
    refine lv_iload_n hx hb dX0_dropBooking_36 rfl (lv_at hl 0 rfl) ?_
    refine lv_iadd hx hb dX0_dropBooking_37 ?_
    refine lv_topi (fun x_17 ex_17 => ?_)
    obtain rfl : x_17 = rch vv k + feeR vv := by simp only [ex_1, ex_2, ex_17]
    refine wy_iast hx hb hK hw hc_7 (k) e1 (by omega) (by omega) dX0_dropBooking_38 (fun H locs f_18 hs_19 hn_20 hw => ?_)
    have hc_21 := wy_c.ne2 hc_9 hn_20 hq.2.2.2.1
    have hc_22 := wy_c.ne2 hc_8 hn_20 hq.2.2.2.2.2.symm
    refine lv_iload_n hx hb dX0_dropBooking_39 rfl (lv_at hl 0 rfl) ?_
    exact wy_iW hx hb hr hlocks dX0_dropBooking_40 hw (Nat.le_of_ble_eq_true rfl) (Nat.le_of_ble_eq_true rfl) ⟨rfl, rfl, ⟨hc_21, hs_19, hc_22, hq.2.2.2⟩, (fun z u0 u1 u2 => ((hn_20 z u1).trans (hn_6 z u0)))⟩
set_option maxHeartbeats 4000000 in
set_option maxRecDepth 100000 in
theorem m_X0_refund (l : Launch) {G : wy_G} {L : List Nat} {f : Nat → va_E} {ha ca da : Nat} {vv : wr_V} {sz : Nat} (hq : wr_o G L f ha ca da vv) (p1 : Int32) (k : Nat) (hk : k < 10) (e1 : p1 = nI k) (p2 : Int32) (bb : Bool) : Met l yX0_refund wsX0_refund ({ frames := 0, cells := 0, slots := 0, locals := 0 } : Room) (va_Pc [.ref ha, .int p1, .int p2, .int (bI bb)] (wy_W G L f sz)) (wy_Q G (wr_p G L f ha ca da (vRef vv k p2 bb) (some (.int (rfv vv k p2)))) (wy_A L sz)) 0 0 (wy_A L sz) := by
  refine Met.ofW (cc := cX0_refund) (maxL := 4) (ret := (some .int)) (by decide) rfl ?_
  intro p e s m args below meth c s₁ B hml hv
  obtain ⟨rfl, hv⟩ := hv
  obtain ⟨hw, hK, hA⟩ := wy_start hv
  have hsz := hv.1
  subst hsz
  have hx := B.exec
  have hb := B.bytes
  have hr := B.returns
  have hts := atoms_spec (ws := wsX0_refund) B.pre
  have hown : s.vm.findClass RX0 = some m.cls := findClass_of_methodNamed B.named
  have hlocks := B.notSynchronized
  have hinX0 : ∀ w ∈ wsX00, w ∈ wsX0_refund := by decide +kernel
  have hl := lv_entry ([.ref ha, .int p1, .int p2, .int (bI bb)]) (n := 4) (Nat.le_of_ble_eq_true rfl)
  rw [lg_entry_eq]
  generalize (lg_sl ([.ref ha, .int p1, .int p2, .int (bI bb)]) ++ List.replicate (4 - (lg_sl ([.ref ha, .int p1, .int p2, .int (bI bb)])).length) Slot.unset).toArray = ls at hl ⊢
  have hl : lv_has ls 4 [(0, .ref ha), (1, .int p1), (2, .int p2), (3, .int (bI bb))] := hl
  refine lv_aload_n hx hb dX0_refund_0 rfl (lv_at hl 0 rfl) ?_
  refine lv_dup hx hb dX0_refund_1 rfl ?_
  refine wy_get (ci := 1) (v := .int (mks (rse vv))) (C := RX0) (T := TX0) (N := 11) hx hb hts hinX0 hown hK hw.1 hq.1 rfl 9 (by decide) (hts (.fieldLink RX0 42 "Wheelpay$Ride" "settled" "I") (by decide +kernel)) (fun _ h9 => h9) rfl dX0_refund_2 ?_
  refine lv_iconst (v := 1) hx hb dX0_refund_5 (by decide) ?_
  refine lv_iload_n hx hb dX0_refund_6 rfl (lv_at hl 1 rfl) ?_
  refine lv_ishl hx hb dX0_refund_7 ?_
  refine lv_topi (fun x_1 ex_1 => ?_)
  refine lv_ior hx hb dX0_refund_8 ?_
  refine lv_topi (fun x_2 ex_2 => ?_)
  obtain rfl : x_2 = mks (va_up (rse vv) k true) := by simp only [ex_1, ex_2, e1]; exact mks_or _ hk
  refine wy_put (ci := 1) (v := .int (mks (va_up (rse vv) k true))) (ty := .int) (C := RX0) (T := TX0) (N := 11) hx hb hts hinX0 tyX0 tyX0_ok nmX0 hown hK hw hq.1 rfl 9 (by decide) (hts (.fieldLink RX0 42 "Wheelpay$Ride" "settled" "I") (by decide +kernel)) (fun _ h9 => h9) rfl (by decide +kernel) rfl rfl (Nat.le_of_ble_eq_true rfl) dX0_refund_9 (fun H locs f_3 hs_4 hn_5 hw => ?_)
  have hc_6 := wy_c.ne2 hq.2.1 hn_5 hq.2.2.2.1.symm
  have hc_7 := wy_c.ne2 hq.2.2.1 hn_5 hq.2.2.2.2.1.symm
  have hc_8 : wy_c L f_3 ha (.inr (1, [.int (rdv vv), .int (rwk vv), .ref ca, .ref da, .int (rmi vv), .int (bI (rfi vv)), .int (mks (rbk vv)), .int (mks (rsd vv)), .int (mks (rdp vv)), .int (mks (va_up (rse vv) k true)), .int (mks (rfa vv))])) := hs_4
  refine lv_iload_n hx hb dX0_refund_12 rfl (lv_at hl 3 rfl) ?_
  refine lv_if_eq (tgt := 28) hx hb dX0_refund_13 (by decide) (fun c_9 => ?_) (fun c_9 => ?_)
  · have bc_9 : (bb) = false := bI_0 (rfl.symm.trans c_9)
    refine lv_aload_n hx hb dX0_refund_28 rfl (lv_at hl 0 rfl) ?_
    refine wy_get (ci := 1) (v := .ref da) (C := RX0) (T := TX0) (N := 11) hx hb hts hinX0 hown hK hw.1 hc_8 rfl 3 (by decide) (hts (.fieldLink RX0 22 "Wheelpay$Ride" "refunds" "[I") (by decide +kernel)) (fun _ h9 => h9) rfl dX0_refund_29 ?_
    refine lv_iload_n hx hb dX0_refund_32 rfl (lv_at hl 1 rfl) ?_
    refine lv_aload_n hx hb dX0_refund_33 rfl (lv_at hl 0 rfl) ?_
    refine wy_get (ci := 1) (v := .ref ca) (C := RX0) (T := TX0) (N := 11) hx hb hts hinX0 hown hK hw.1 hc_8 rfl 2 (by decide) (hts (.fieldLink RX0 18 "Wheelpay$Ride" "charges" "[I") (by decide +kernel)) (fun _ h9 => h9) rfl dX0_refund_34 ?_
    refine lv_iload_n hx hb dX0_refund_37 rfl (lv_at hl 1 rfl) ?_
    refine wy_iald hx hb hK hw.1 hc_6 (k) e1 (by omega) (by omega) dX0_refund_38 ?_
    refine lv_i2l (v := (rch vv (k)).toInt64) hx hb dX0_refund_39 rfl ?_
    refine lv_iload_n hx hb dX0_refund_40 rfl (lv_at hl 2 rfl) ?_
    refine lv_i2l (v := p2.toInt64) hx hb dX0_refund_41 rfl ?_
    refine lv_lmul hx hb dX0_refund_42 ?_
    refine lv_ldc2 (v := 100) hx hb hown (hts (.constantLong RX0 57 (100)) (by decide +kernel)) dX0_refund_43 ?_
    refine lv_ldiv hx hb dX0_refund_46 (by decide) ?_
    refine lv_l2i (v := ((((rch vv (k)).toInt64) * p2.toInt64) / (100 : Int64)).toInt32) hx hb dX0_refund_47 rfl ?_
    refine lv_topi (fun x_12 ex_12 => ?_)
    obtain rfl : x_12 = rfv vv k p2 := by simp only [ex_1, ex_12]; rfl
    refine wy_iast hx hb hK hw hc_7 (k) e1 (by omega) (by omega) dX0_refund_48 (fun H locs f_13 hs_14 hn_15 hw => ?_)
    have hc_16 := wy_c.ne2 hc_8 hn_15 hq.2.2.2.2.1
    have hc_17 := wy_c.ne2 hc_6 hn_15 hq.2.2.2.2.2
    refine lv_aload_n hx hb dX0_refund_49 rfl (lv_at hl 0 rfl) ?_
    refine wy_get (ci := 1) (v := .ref da) (C := RX0) (T := TX0) (N := 11) hx hb hts hinX0 hown hK hw.1 hc_16 rfl 3 (by decide) (hts (.fieldLink RX0 22 "Wheelpay$Ride" "refunds" "[I") (by decide +kernel)) (fun _ h9 => h9) rfl dX0_refund_50 ?_
    refine lv_iload_n hx hb dX0_refund_53 rfl (lv_at hl 1 rfl) ?_
    refine wy_iald hx hb hK hw.1 hs_14 (k) e1 (by omega) (by omega) dX0_refund_54 ?_
    subst bc_9
    exact wy_iW hx hb hr hlocks dX0_refund_55 hw (Nat.le_of_ble_eq_true rfl) (Nat.le_of_ble_eq_true rfl) ⟨by simp [upd], rfl, ⟨hc_16, hc_17, hs_14, hq.2.2.2⟩, (fun z u0 u1 u2 => ((hn_15 z u2).trans (hn_5 z u0)))⟩
  · have bc_9 : (bb) = true := bI_1 (fun z => c_9 (rfl.trans z))
    refine lv_aload_n hx hb dX0_refund_16 rfl (lv_at hl 0 rfl) ?_
    refine lv_dup hx hb dX0_refund_17 rfl ?_
    refine wy_get (ci := 1) (v := .int (mks (rfa vv))) (C := RX0) (T := TX0) (N := 11) hx hb hts hinX0 hown hK hw.1 hc_8 rfl 10 (by decide) (hts (.fieldLink RX0 54 "Wheelpay$Ride" "faulted" "I") (by decide +kernel)) (fun _ h9 => h9) rfl dX0_refund_18 ?_
    refine lv_iconst (v := 1) hx hb dX0_refund_21 (by decide) ?_
    refine lv_iload_n hx hb dX0_refund_22 rfl (lv_at hl 1 rfl) ?_
    refine lv_ishl hx hb dX0_refund_23 ?_
    refine lv_topi (fun x_18 ex_18 => ?_)
    refine lv_ior hx hb dX0_refund_24 ?_
    refine lv_topi (fun x_19 ex_19 => ?_)
    obtain rfl : x_19 = mks (va_up (rfa vv) k true) := by simp only [ex_1, ex_18, ex_19, e1]; exact mks_or _ hk
    refine wy_put (ci := 1) (v := .int (mks (va_up (rfa vv) k true))) (ty := .int) (C := RX0) (T := TX0) (N := 11) hx hb hts hinX0 tyX0 tyX0_ok nmX0 hown hK hw hc_8 rfl 10 (by decide) (hts (.fieldLink RX0 54 "Wheelpay$Ride" "faulted" "I") (by decide +kernel)) (fun _ h9 => h9) rfl (by decide +kernel) rfl rfl (Nat.le_of_ble_eq_true rfl) dX0_refund_25 (fun H locs f_20 hs_21 hn_22 hw => ?_)
    have hc_23 := wy_c.ne2 hc_6 hn_22 hq.2.2.2.1.symm
    have hc_24 := wy_c.ne2 hc_7 hn_22 hq.2.2.2.2.1.symm
    have hc_25 : wy_c L f_20 ha (.inr (1, [.int (rdv vv), .int (rwk vv), .ref ca, .ref da, .int (rmi vv), .int (bI (rfi vv)), .int (mks (rbk vv)), .int (mks (rsd vv)), .int (mks (rdp vv)), .int (mks (va_up (rse vv) k true)), .int (mks (va_up (rfa vv) k true))])) := hs_21
    refine lv_aload_n hx hb dX0_refund_28 rfl (lv_at hl 0 rfl) ?_
    refine wy_get (ci := 1) (v := .ref da) (C := RX0) (T := TX0) (N := 11) hx hb hts hinX0 hown hK hw.1 hc_25 rfl 3 (by decide) (hts (.fieldLink RX0 22 "Wheelpay$Ride" "refunds" "[I") (by decide +kernel)) (fun _ h9 => h9) rfl dX0_refund_29 ?_
    refine lv_iload_n hx hb dX0_refund_32 rfl (lv_at hl 1 rfl) ?_
    refine lv_aload_n hx hb dX0_refund_33 rfl (lv_at hl 0 rfl) ?_
    refine wy_get (ci := 1) (v := .ref ca) (C := RX0) (T := TX0) (N := 11) hx hb hts hinX0 hown hK hw.1 hc_25 rfl 2 (by decide) (hts (.fieldLink RX0 18 "Wheelpay$Ride" "charges" "[I") (by decide +kernel)) (fun _ h9 => h9) rfl dX0_refund_34 ?_
    refine lv_iload_n hx hb dX0_refund_37 rfl (lv_at hl 1 rfl) ?_
    refine wy_iald hx hb hK hw.1 hc_23 (k) e1 (by omega) (by omega) dX0_refund_38 ?_
    refine lv_i2l (v := (rch vv (k)).toInt64) hx hb dX0_refund_39 rfl ?_
    refine lv_iload_n hx hb dX0_refund_40 rfl (lv_at hl 2 rfl) ?_
    refine lv_i2l (v := p2.toInt64) hx hb dX0_refund_41 rfl ?_
    refine lv_lmul hx hb dX0_refund_42 ?_
    refine lv_ldc2 (v := 100) hx hb hown (hts (.constantLong RX0 57 (100)) (by decide +kernel)) dX0_refund_43 ?_
    refine lv_ldiv hx hb dX0_refund_46 (by decide) ?_
    refine lv_l2i (v := ((((rch vv (k)).toInt64) * p2.toInt64) / (100 : Int64)).toInt32) hx hb dX0_refund_47 rfl ?_
    refine lv_topi (fun x_28 ex_28 => ?_)
    obtain rfl : x_28 = rfv vv k p2 := by simp only [ex_1, ex_18, ex_28]; rfl
    refine wy_iast hx hb hK hw hc_24 (k) e1 (by omega) (by omega) dX0_refund_48 (fun H locs f_29 hs_30 hn_31 hw => ?_)
    have hc_32 := wy_c.ne2 hc_25 hn_31 hq.2.2.2.2.1
    have hc_33 := wy_c.ne2 hc_23 hn_31 hq.2.2.2.2.2
    refine lv_aload_n hx hb dX0_refund_49 rfl (lv_at hl 0 rfl) ?_
    refine wy_get (ci := 1) (v := .ref da) (C := RX0) (T := TX0) (N := 11) hx hb hts hinX0 hown hK hw.1 hc_32 rfl 3 (by decide) (hts (.fieldLink RX0 22 "Wheelpay$Ride" "refunds" "[I") (by decide +kernel)) (fun _ h9 => h9) rfl dX0_refund_50 ?_
    refine lv_iload_n hx hb dX0_refund_53 rfl (lv_at hl 1 rfl) ?_
    refine wy_iald hx hb hK hw.1 hs_30 (k) e1 (by omega) (by omega) dX0_refund_54 ?_
    subst bc_9
    exact wy_iW hx hb hr hlocks dX0_refund_55 hw (Nat.le_of_ble_eq_true rfl) (Nat.le_of_ble_eq_true rfl) ⟨by simp [upd], rfl, ⟨hc_32, hc_33, hs_30, hq.2.2.2⟩, (fun z u0 u1 u2 => ((hn_31 z u2).trans ((hn_22 z u0).trans (hn_5 z u0))))⟩
set_option maxHeartbeats 4000000 in
set_option maxRecDepth 100000 in
theorem m_X0_end (l : Launch) {G : wy_G} {L : List Nat} {f : Nat → va_E} {ha ca da : Nat} {vv : wr_V} {sz : Nat} (hq : wr_o G L f ha ca da vv) : Met l yX0_end wsX0_end ({ frames := 1, cells := 0, slots := 0, locals := 21 } : Room) (va_Pc [.ref ha] (wy_W G L f sz)) (wy_Q G (wr_p G L f ha ca da (vEnd vv) (none)) (wy_A L sz)) 0 0 (wy_A L sz) := by
  refine Met.ofW (cc := cX0_end) (maxL := 2) (ret := none) (by decide) rfl ?_
  intro p e s m args below meth c s₁ B hml hv
  obtain ⟨rfl, hv⟩ := hv
  obtain ⟨hw, hK, hA⟩ := wy_start hv
  have hsz := hv.1
  subst hsz
  have hx := B.exec
  have hb := B.bytes
  have hr := B.returns
  have hts := atoms_spec (ws := wsX0_end) B.pre
  have hown : s.vm.findClass RX0 = some m.cls := findClass_of_methodNamed B.named
  have hlocks := B.notSynchronized
  have hinX0 : ∀ w ∈ wsX00, w ∈ wsX0_end := by decide +kernel
  have hl := lv_entry ([.ref ha]) (n := 2) (Nat.le_of_ble_eq_true rfl)
  rw [lg_entry_eq]
  generalize (lg_sl ([.ref ha]) ++ List.replicate (2 - (lg_sl ([.ref ha])).length) Slot.unset).toArray = ls at hl ⊢
  have hl : lv_has ls 2 [(0, .ref ha)] := hl
  refine lv_iconst (v := 0) hx hb dX0_end_0 (by decide) ?_
  refine lv_istore_n (lv' := [(1, .int 0), (0, .ref ha)]) hx hb dX0_end_1 rfl hl (by decide) rfl (fun ls hl => ?_)
  have KK : ∀ (d i : Nat), i + d = 10 → ∀ (xi_i : Int32), xi_i = nI (i) → ∀ (H : Heap) (locs : List Loc) (fc : Nat → va_E), wy_H G L fc (wy_A L s.heap.size) s.heap H locs → wy_c L fc ha (.inr (1, [.int (rdv vv), .int (rwk vv), .ref ca, .ref da, .int (rmi vv), .int (bI (rfi vv)), .int (mks (rbk vv)), .int (mks (rsd vv)), .int (mks (rdp vv)), .int (mks (rse vv)), .int (mks (rfa vv))])) → wy_c L fc ca (.inl (G.2 0, 10, .inl (endc (rbk vv) (rch vv) i))) → wy_c L fc da (.inl (G.2 0, 10, .inl (rrf vv))) → (∀ z, z ≠ ha → z ≠ ca → z ≠ da → fc z = f z) → ∀ ls : Array Slot, lv_has ls 2 [(1, .int xi_i), (0, .ref ha)] → W p l e (headSpec wsX0_end ({ frames := 1, cells := 0, slots := 0, locals := 21 } : Room)).room s m ([.ref ha] : List Value).toArray below meth c H locs 0 0 (MQ below (wy_Q G (wr_p G L f ha ca da (vEnd vv) (none)) (wy_A L s.heap.size)) ([.ref ha] : List Value).toArray s 0 0 (wy_A L s.heap.size)) (F0 m 2 ls []) := by
    intro d
    induction d with
    | zero =>
      intro i hd_i xi_i ei_i H locs fc hw hc0 hc1 hc2 hfr ls hl
      refine lv_iload_n hx hb dX0_end_2 rfl (lv_at hl 0 rfl) ?_
      refine lv_bipush (v := 10) hx hb dX0_end_3 (by decide) ?_
      refine lv_icmp_ge (tgt := 37) hx hb dX0_end_5 (by decide) (fun c_1 => ?_) (fun c_1 => ?_)
      · have nc_1 : 10 ≤ i := (wy_ge ei_i (rfl : (10 : Int32) = nI 10) (by omega) (by decide)).mp c_1
        obtain rfl : 10 = i := by omega
        refine lv_aload_n hx hb dX0_end_37 rfl (lv_at hl 1 rfl) ?_
        refine lv_iconst (v := 0) hx hb dX0_end_38 (by decide) ?_
        rw [show (0 : Int32) = mks (fun _ => false) from mks_0.symm]
        refine wy_put (ci := 1) (v := .int (mks (fun _ => false))) (ty := .int) (C := RX0) (T := TX0) (N := 11) hx hb hts hinX0 tyX0 tyX0_ok nmX0 hown hK hw hc0 rfl 7 (by decide) (hts (.fieldLink RX0 36 "Wheelpay$Ride" "seated" "I") (by decide +kernel)) (fun _ h9 => h9) rfl (by decide +kernel) rfl rfl (Nat.le_of_ble_eq_true rfl) dX0_end_39 (fun H locs f_2 hs_3 hn_4 hw => ?_)
        have hc_5 := wy_c.ne2 hc1 hn_4 hq.2.2.2.1.symm
        have hc_6 := wy_c.ne2 hc2 hn_4 hq.2.2.2.2.1.symm
        have hc_7 : wy_c L f_2 ha (.inr (1, [.int (rdv vv), .int (rwk vv), .ref ca, .ref da, .int (rmi vv), .int (bI (rfi vv)), .int (mks (rbk vv)), .int (mks (fun _ => false)), .int (mks (rdp vv)), .int (mks (rse vv)), .int (mks (rfa vv))])) := hs_3
        refine lv_aload_n hx hb dX0_end_42 rfl (lv_at hl 1 rfl) ?_
        refine lv_iconst (v := 1) hx hb dX0_end_43 (by decide) ?_
        rw [show (1 : Int32) = bI true from rfl]
        refine wy_put (ci := 1) (v := .int (bI true)) (ty := .boolean) (C := RX0) (T := TX0) (N := 11) hx hb hts hinX0 tyX0 tyX0_ok nmX0 hown hK hw hc_7 rfl 5 (by decide) (hts (.fieldLink RX0 25 "Wheelpay$Ride" "finished" "Z") (by decide +kernel)) (fun _ h9 => h9) rfl (by decide +kernel) (by first | rfl | exact bI_nar _ | (rw [rfl]; exact bI_nar _)) (by first | rfl | exact bI_fit _ | (rw [rfl]; exact bI_fit _)) (Nat.le_of_ble_eq_true rfl) dX0_end_44 (fun H locs f_8 hs_9 hn_10 hw => ?_)
        have hc_11 := wy_c.ne2 hc_5 hn_10 hq.2.2.2.1.symm
        have hc_12 := wy_c.ne2 hc_6 hn_10 hq.2.2.2.2.1.symm
        have hc_13 : wy_c L f_8 ha (.inr (1, [.int (rdv vv), .int (rwk vv), .ref ca, .ref da, .int (rmi vv), .int (bI true), .int (mks (rbk vv)), .int (mks (fun _ => false)), .int (mks (rdp vv)), .int (mks (rse vv)), .int (mks (rfa vv))])) := hs_9
        exact wy_vW hx hb hr hlocks dX0_end_47 hw (Nat.le_of_ble_eq_true rfl) (Nat.le_of_ble_eq_true rfl) ⟨rfl, rfl, ⟨hc_13, hc_11, hc_12, hq.2.2.2⟩, (fun z u0 u1 u2 => ((hn_10 z u0).trans ((hn_4 z u0).trans (hfr z u0 u1 u2))))⟩
      · have nc_1 : ¬ (10 ≤ i) := fun z => c_1 ((wy_ge ei_i (rfl : (10 : Int32) = nI 10) (by omega) (by decide)).mpr z)
        exact absurd nc_1 (by omega)
    | succ d ih_d =>
      intro i hd_i xi_i ei_i H locs fc hw hc0 hc1 hc2 hfr ls hl
      refine lv_iload_n hx hb dX0_end_2 rfl (lv_at hl 0 rfl) ?_
      refine lv_bipush (v := 10) hx hb dX0_end_3 (by decide) ?_
      refine lv_icmp_ge (tgt := 37) hx hb dX0_end_5 (by decide) (fun c_14 => ?_) (fun c_14 => ?_)
      · have nc_14 : 10 ≤ i := (wy_ge ei_i (rfl : (10 : Int32) = nI 10) (by omega) (by decide)).mp c_14
        exact absurd nc_14 (by omega)
      · have nc_14 : ¬ (10 ≤ i) := fun z => c_14 ((wy_ge ei_i (rfl : (10 : Int32) = nI 10) (by omega) (by decide)).mpr z)
        refine lv_aload_n hx hb dX0_end_8 rfl (lv_at hl 1 rfl) ?_
        refine wy_get (ci := 1) (v := .int (mks (rbk vv))) (C := RX0) (T := TX0) (N := 11) hx hb hts hinX0 hown hK hw.1 hc0 rfl 6 (by decide) (hts (.fieldLink RX0 29 "Wheelpay$Ride" "booked" "I") (by decide +kernel)) (fun _ h9 => h9) rfl dX0_end_9 ?_
        refine lv_iload_n hx hb dX0_end_12 rfl (lv_at hl 0 rfl) ?_
        refine vp_callSi (W.runS (As := [.int (mks (rbk vv)), .int xi_i]) (rest := []) ⟨hx, hb, hml, hown, hts⟩ (m_X0_holds l (rbk vv) (xi_i) (i) (by omega) ei_i) (va_cwS 2 hts gX0_end_X0_holds rfl rfl rfl (by decide +kernel) ⟨Nat.le_of_ble_eq_true rfl, Nat.le_of_ble_eq_true rfl⟩) (wy_pSN) rfl rfl hl.1 rfl (lv_room (Nat.le_of_ble_eq_true rfl)) dX0_end_13 ⟨Nat.le_of_ble_eq_true rfl, Nat.le_of_ble_eq_true rfl⟩) (fun r_15 er_15 => ?_)
        refine lv_if_eq (tgt := 31) hx hb dX0_end_16 (by decide) (fun c_16 => ?_) (fun c_16 => ?_)
        · have bc_16 : ((rbk vv) (i)) = false := bI_0 (er_15.symm.trans c_16)
          obtain ⟨x_17, ex_17⟩ : ∃ y : Int32, y = xi_i + 1 := ⟨_, rfl⟩
          have nx_17 : x_17 = nI (i + 1) := by rw [ex_17, ei_i, nI_1]
          refine lv_iinc (v := x_17) (lv' := [(1, .int x_17), (0, .ref ha)]) hx hb dX0_end_31 hl (k := 0) rfl (by rw [ex_17]; rfl) (by decide) rfl (fun ls hl => ?_)
          refine lv_goto (tgt := 2) hx hb dX0_end_34 (by decide) ?_
          exact ih_d (i + 1) (by omega) _ nx_17 _ _ _ hw hc0 (by rw [← endc_f _ _ _ bc_16]; exact hc1) hc2 (fun z u0 u1 u2 => (hfr z u0 u1 u2)) ls (lv_sub hl [0, 1] rfl)
        · have bc_16 : ((rbk vv) (i)) = true := bI_1 (fun z => c_16 (er_15.trans z))
          refine lv_aload_n hx hb dX0_end_19 rfl (lv_at hl 1 rfl) ?_
          refine wy_get (ci := 1) (v := .ref ca) (C := RX0) (T := TX0) (N := 11) hx hb hts hinX0 hown hK hw.1 hc0 rfl 2 (by decide) (hts (.fieldLink RX0 18 "Wheelpay$Ride" "charges" "[I") (by decide +kernel)) (fun _ h9 => h9) rfl dX0_end_20 ?_
          refine lv_iload_n hx hb dX0_end_23 rfl (lv_at hl 0 rfl) ?_
          refine lv_dup2_11 hx hb dX0_end_24 rfl rfl ?_
          refine wy_iald hx hb hK hw.1 hc1 (i) ei_i (by omega) (by omega) dX0_end_25 ?_
          refine lv_sipush (v := 400) hx hb dX0_end_26 (by decide) ?_
          refine lv_iadd hx hb dX0_end_29 ?_
          refine lv_topi (fun x_18 ex_18 => ?_)
          refine wy_iast hx hb hK hw hc1 (i) ei_i (by omega) (by omega) dX0_end_30 (fun H locs f_19 hs_20 hn_21 hw => ?_)
          have hc_22 := wy_c.ne2 hc0 hn_21 hq.2.2.2.1
          have hc_23 := wy_c.ne2 hc2 hn_21 hq.2.2.2.2.2.symm
          obtain ⟨x_24, ex_24⟩ : ∃ y : Int32, y = xi_i + 1 := ⟨_, rfl⟩
          have nx_24 : x_24 = nI (i + 1) := by rw [ex_24, ei_i, nI_1]
          refine lv_iinc (v := x_24) (lv' := [(1, .int x_24), (0, .ref ha)]) hx hb dX0_end_31 hl (k := 0) rfl (by rw [ex_24]; rfl) (by decide) rfl (fun ls hl => ?_)
          refine lv_goto (tgt := 2) hx hb dX0_end_34 (by decide) ?_
          exact ih_d (i + 1) (by omega) _ nx_24 _ _ _ hw hc_22 (by rw [← endc_t (z := x_18) _ _ _ bc_16 (by simp only [ex_18, ex_24, endc_self])]; exact hs_20) hc_23 (fun z u0 u1 u2 => ((hn_21 z u1).trans (hfr z u0 u1 u2))) ls (lv_sub hl [0, 1] rfl)
  exact KK (10) 0 (by omega) _ rfl _ _ _ hw hq.1 (by rw [endc_0]; exact hq.2.1) hq.2.2.1 (fun z u0 u1 u2 => rfl) ls (lv_sub hl [0, 1] rfl)
set_option maxHeartbeats 4000000 in
set_option maxRecDepth 100000 in
theorem m_X0_addStretch (l : Launch) {G : wy_G} {L : List Nat} {f : Nat → va_E} {ha ca da : Nat} {vv : wr_V} {sz : Nat} (hq : wr_o G L f ha ca da vv) (p1 p2 : Int32) : Met l yX0_addStretch wsX0_addStretch ({ frames := 1, cells := 0, slots := 0, locals := 21 } : Room) (va_Pc [.ref ha, .int p1, .int p2] (wy_W G L f sz)) (wy_Q G (wr_p G L f ha ca da (vStr vv p1 p2) (some (.int (if cb (rsd vv) 10 = 0 then 0 else p1)))) (wy_A L sz)) 0 0 (wy_A L sz) := by
  refine Met.ofW (cc := cX0_addStretch) (maxL := 7) (ret := (some .int)) (by decide) rfl ?_
  intro p e s m args below meth c s₁ B hml hv
  obtain ⟨rfl, hv⟩ := hv
  obtain ⟨hw, hK, hA⟩ := wy_start hv
  have hsz := hv.1
  subst hsz
  have hx := B.exec
  have hb := B.bytes
  have hr := B.returns
  have hts := atoms_spec (ws := wsX0_addStretch) B.pre
  have hown : s.vm.findClass RX0 = some m.cls := findClass_of_methodNamed B.named
  have hlocks := B.notSynchronized
  have hinX0 : ∀ w ∈ wsX00, w ∈ wsX0_addStretch := by decide +kernel
  have hl := lv_entry ([.ref ha, .int p1, .int p2]) (n := 7) (Nat.le_of_ble_eq_true rfl)
  rw [lg_entry_eq]
  generalize (lg_sl ([.ref ha, .int p1, .int p2]) ++ List.replicate (7 - (lg_sl ([.ref ha, .int p1, .int p2])).length) Slot.unset).toArray = ls at hl ⊢
  have hl : lv_has ls 7 [(0, .ref ha), (1, .int p1), (2, .int p2)] := hl
  refine lv_aload_n hx hb dX0_addStretch_0 rfl (lv_at hl 0 rfl) ?_
  refine lv_dup hx hb dX0_addStretch_1 rfl ?_
  refine wy_get (ci := 1) (v := .int (rmi vv)) (C := RX0) (T := TX0) (N := 11) hx hb hts hinX0 hown hK hw.1 hq.1 rfl 4 (by decide) (hts (.fieldLink RX0 51 "Wheelpay$Ride" "minutes" "I") (by decide +kernel)) (fun _ h9 => h9) rfl dX0_addStretch_2 ?_
  refine lv_iload_n hx hb dX0_addStretch_5 rfl (lv_at hl 2 rfl) ?_
  refine lv_iadd hx hb dX0_addStretch_6 ?_
  refine lv_topi (fun x_1 ex_1 => ?_)
  subst ex_1
  refine wy_put (ci := 1) (v := .int (rmi vv + p2)) (ty := .int) (C := RX0) (T := TX0) (N := 11) hx hb hts hinX0 tyX0 tyX0_ok nmX0 hown hK hw hq.1 rfl 4 (by decide) (hts (.fieldLink RX0 51 "Wheelpay$Ride" "minutes" "I") (by decide +kernel)) (fun _ h9 => h9) rfl (by decide +kernel) rfl rfl (Nat.le_of_ble_eq_true rfl) dX0_addStretch_7 (fun H locs f_2 hs_3 hn_4 hw => ?_)
  have hc_5 := wy_c.ne2 hq.2.1 hn_4 hq.2.2.2.1.symm
  have hc_6 := wy_c.ne2 hq.2.2.1 hn_4 hq.2.2.2.2.1.symm
  have hc_7 : wy_c L f_2 ha (.inr (1, [.int (rdv vv), .int (rwk vv), .ref ca, .ref da, .int (rmi vv + p2), .int (bI (rfi vv)), .int (mks (rbk vv)), .int (mks (rsd vv)), .int (mks (rdp vv)), .int (mks (rse vv)), .int (mks (rfa vv))])) := hs_3
  refine lv_aload_n hx hb dX0_addStretch_10 rfl (lv_at hl 0 rfl) ?_
  refine wy_get (ci := 1) (v := .int (mks (rsd vv))) (C := RX0) (T := TX0) (N := 11) hx hb hts hinX0 hown hK hw.1 hc_7 rfl 7 (by decide) (hts (.fieldLink RX0 36 "Wheelpay$Ride" "seated" "I") (by decide +kernel)) (fun _ h9 => h9) rfl dX0_addStretch_11 ?_
  refine vp_callSi (W.runS (As := [.int (mks (rsd vv))]) (rest := []) ⟨hx, hb, hml, hown, hts⟩ (m_J6_bitCount_0f7a4 l (mks (rsd vv))) (va_cwS 1 hts gX0_addStretch_J6_bitCount_0f7a4 rfl rfl rfl (by decide +kernel) ⟨Nat.le_of_ble_eq_true rfl, Nat.le_of_ble_eq_true rfl⟩) (wy_pSN) rfl rfl hl.1 rfl (lv_room (Nat.le_of_ble_eq_true rfl)) dX0_addStretch_14 ⟨Nat.le_of_ble_eq_true rfl, Nat.le_of_ble_eq_true rfl⟩) (fun r_8 er_8 => ?_)
  have nr_8 : r_8 = nI (cb (rsd vv) 10) := er_8.trans (bcf_mks _)
  refine lv_istore_n (lv' := [(3, .int r_8), (0, .ref ha), (1, .int p1), (2, .int p2)]) hx hb dX0_addStretch_17 rfl hl (by decide) rfl (fun ls hl => ?_)
  refine lv_iload_n hx hb dX0_addStretch_18 rfl (lv_at hl 0 rfl) ?_
  refine lv_if_ne (tgt := 24) hx hb dX0_addStretch_19 (by decide) (fun c_9 => ?_) (fun c_9 => ?_)
  · have hn0 : ¬ cb (rsd vv) 10 = 0 := fun z => c_9 (by rw [nr_8, z]; rfl)
    refine lv_iload_n hx hb dX0_addStretch_24 rfl (lv_at hl 2 rfl) ?_
    refine lv_iload_n hx hb dX0_addStretch_25 rfl (lv_at hl 0 rfl) ?_
    refine lv_idiv hx hb dX0_addStretch_26 c_9 ?_
    refine lv_topi (fun x_10 ex_10 => ?_)
    obtain rfl : x_10 = p1 / nI (cb (rsd vv) 10) := by simp only [nr_8, ex_10]
    refine lv_istore (lv' := [(4, .int (p1 / nI (cb (rsd vv) 10))), (3, .int r_8), (0, .ref ha), (1, .int p1), (2, .int p2)]) hx hb dX0_addStretch_27 hl (by decide) rfl (fun ls hl => ?_)
    refine lv_iload_n hx hb dX0_addStretch_29 rfl (lv_at hl 3 rfl) ?_
    refine lv_iload_n hx hb dX0_addStretch_30 rfl (lv_at hl 1 rfl) ?_
    refine lv_irem hx hb dX0_addStretch_31 c_9 ?_
    refine lv_topi (fun x_11 ex_11 => ?_)
    obtain rfl : x_11 = p1 - p1 / nI (cb (rsd vv) 10) * nI (cb (rsd vv) 10) := by simp only [nr_8, ex_11]
    refine lv_istore (lv' := [(5, .int (p1 - p1 / nI (cb (rsd vv) 10) * nI (cb (rsd vv) 10))), (4, .int (p1 / nI (cb (rsd vv) 10))), (3, .int r_8), (0, .ref ha), (1, .int p1), (2, .int p2)]) hx hb dX0_addStretch_32 hl (by decide) rfl (fun ls hl => ?_)
    refine lv_iconst (v := 0) hx hb dX0_addStretch_34 (by decide) ?_
    refine lv_istore (lv' := [(6, .int 0), (5, .int (p1 - p1 / nI (cb (rsd vv) 10) * nI (cb (rsd vv) 10))), (4, .int (p1 / nI (cb (rsd vv) 10))), (3, .int r_8), (0, .ref ha), (1, .int p1), (2, .int p2)]) hx hb dX0_addStretch_35 hl (by decide) rfl (fun ls hl => ?_)
    have KK : ∀ (d i : Nat), i + d = 10 → ∀ (xi_i : Int32), xi_i = nI (i) → ∀ (a_l : Int32), a_l = (p1 - p1 / nI (cb (rsd vv) 10) * nI (cb (rsd vv) 10)) - nI (cb (rsd vv) i) → ∀ (H : Heap) (locs : List Loc) (fc : Nat → va_E), wy_H G L fc (wy_A L s.heap.size) s.heap H locs → wy_c L fc ha (.inr (1, [.int (rdv vv), .int (rwk vv), .ref ca, .ref da, .int (rmi vv + p2), .int (bI (rfi vv)), .int (mks (rbk vv)), .int (mks (rsd vv)), .int (mks (rdp vv)), .int (mks (rse vv)), .int (mks (rfa vv))])) → wy_c L fc ca (.inl (G.2 0, 10, .inl (stch (rsd vv) (rch vv) (p1 / nI (cb (rsd vv) 10)) (p1 - p1 / nI (cb (rsd vv) 10) * nI (cb (rsd vv) 10)) i))) → wy_c L fc da (.inl (G.2 0, 10, .inl (rrf vv))) → (∀ z, z ≠ ha → z ≠ ca → z ≠ da → fc z = f z) → ∀ ls : Array Slot, lv_has ls 7 [(6, .int xi_i), (5, .int a_l), (4, .int (p1 / nI (cb (rsd vv) 10))), (0, .ref ha), (1, .int p1), (2, .int p2)] → W p l e (headSpec wsX0_addStretch ({ frames := 1, cells := 0, slots := 0, locals := 21 } : Room)).room s m ([.ref ha, .int p1, .int p2] : List Value).toArray below meth c H locs 0 0 (MQ below (wy_Q G (wr_p G L f ha ca da (vStr vv p1 p2) (some (.int (if cb (rsd vv) 10 = 0 then 0 else p1)))) (wy_A L s.heap.size)) ([.ref ha, .int p1, .int p2] : List Value).toArray s 0 0 (wy_A L s.heap.size)) (F0 m 37 ls []) := by
      intro d
      induction d with
      | zero =>
        intro i hd_i xi_i ei_i a_l ha_l H locs fc hw hc0 hc1 hc2 hfr ls hl
        refine lv_iload hx hb dX0_addStretch_37 (lv_at hl 0 rfl) ?_
        refine lv_bipush (v := 10) hx hb dX0_addStretch_39 (by decide) ?_
        refine lv_icmp_ge (tgt := 89) hx hb dX0_addStretch_41 (by decide) (fun c_12 => ?_) (fun c_12 => ?_)
        · have nc_12 : 10 ≤ i := (wy_ge ei_i (rfl : (10 : Int32) = nI 10) (by omega) (by decide)).mp c_12
          obtain rfl : 10 = i := by omega
          refine lv_iload_n hx hb dX0_addStretch_89 rfl (lv_at hl 4 rfl) ?_
          have h1 : stchg (rsd vv) (rch vv) p1 = stch (rsd vv) (rch vv) (p1 / nI (cb (rsd vv) 10)) (p1 - p1 / nI (cb (rsd vv) 10) * nI (cb (rsd vv) 10)) 10 := by rw [stchg, if_neg hn0]
          exact wy_iW hx hb hr hlocks dX0_addStretch_90 hw (Nat.le_of_ble_eq_true rfl) (Nat.le_of_ble_eq_true rfl) ⟨by rw [if_neg hn0], rfl, by rw [vStr, h1]; exact ⟨hc0, hc1, hc2, hq.2.2.2⟩, (fun z u0 u1 u2 => (hfr z u0 u1 u2))⟩
        · have nc_12 : ¬ (10 ≤ i) := fun z => c_12 ((wy_ge ei_i (rfl : (10 : Int32) = nI 10) (by omega) (by decide)).mpr z)
          exact absurd nc_12 (by omega)
      | succ d ih_d =>
        intro i hd_i xi_i ei_i a_l ha_l H locs fc hw hc0 hc1 hc2 hfr ls hl
        refine lv_iload hx hb dX0_addStretch_37 (lv_at hl 0 rfl) ?_
        refine lv_bipush (v := 10) hx hb dX0_addStretch_39 (by decide) ?_
        refine lv_icmp_ge (tgt := 89) hx hb dX0_addStretch_41 (by decide) (fun c_13 => ?_) (fun c_13 => ?_)
        · have nc_13 : 10 ≤ i := (wy_ge ei_i (rfl : (10 : Int32) = nI 10) (by omega) (by decide)).mp c_13
          exact absurd nc_13 (by omega)
        · have nc_13 : ¬ (10 ≤ i) := fun z => c_13 ((wy_ge ei_i (rfl : (10 : Int32) = nI 10) (by omega) (by decide)).mpr z)
          refine lv_aload_n hx hb dX0_addStretch_44 rfl (lv_at hl 3 rfl) ?_
          refine wy_get (ci := 1) (v := .int (mks (rsd vv))) (C := RX0) (T := TX0) (N := 11) hx hb hts hinX0 hown hK hw.1 hc0 rfl 7 (by decide) (hts (.fieldLink RX0 36 "Wheelpay$Ride" "seated" "I") (by decide +kernel)) (fun _ h9 => h9) rfl dX0_addStretch_45 ?_
          refine lv_iload hx hb dX0_addStretch_48 (lv_at hl 0 rfl) ?_
          refine vp_callSi (W.runS (As := [.int (mks (rsd vv)), .int xi_i]) (rest := []) ⟨hx, hb, hml, hown, hts⟩ (m_X0_holds l (rsd vv) (xi_i) (i) (by omega) ei_i) (va_cwS 2 hts gX0_addStretch_X0_holds rfl rfl rfl (by decide +kernel) ⟨Nat.le_of_ble_eq_true rfl, Nat.le_of_ble_eq_true rfl⟩) (wy_pSN) rfl rfl hl.1 rfl (lv_room (Nat.le_of_ble_eq_true rfl)) dX0_addStretch_50 ⟨Nat.le_of_ble_eq_true rfl, Nat.le_of_ble_eq_true rfl⟩) (fun r_14 er_14 => ?_)
          refine lv_if_eq (tgt := 83) hx hb dX0_addStretch_53 (by decide) (fun c_15 => ?_) (fun c_15 => ?_)
          · have bc_15 : ((rsd vv) (i)) = false := bI_0 (er_14.symm.trans c_15)
            obtain ⟨x_16, ex_16⟩ : ∃ y : Int32, y = xi_i + 1 := ⟨_, rfl⟩
            have nx_16 : x_16 = nI (i + 1) := by rw [ex_16, ei_i, nI_1]
            refine lv_iinc (v := x_16) (lv' := [(6, .int x_16), (5, .int a_l), (4, .int (p1 / nI (cb (rsd vv) 10))), (0, .ref ha), (1, .int p1), (2, .int p2)]) hx hb dX0_addStretch_83 hl (k := 0) rfl (by rw [ex_16]; rfl) (by decide) rfl (fun ls hl => ?_)
            refine lv_goto (tgt := 37) hx hb dX0_addStretch_86 (by decide) ?_
            exact ih_d (i + 1) (by omega) _ nx_16 _ (by rw [ha_l]; simp [cb, bc_15]) _ _ _ hw hc0 (by rw [← stch_f _ _ _ _ _ bc_15]; exact hc1) hc2 (fun z u0 u1 u2 => (hfr z u0 u1 u2)) ls (lv_sub hl [0, 1, 2, 3, 4, 5] rfl)
          · have bc_15 : ((rsd vv) (i)) = true := bI_1 (fun z => c_15 (er_14.trans z))
            refine lv_aload_n hx hb dX0_addStretch_56 rfl (lv_at hl 3 rfl) ?_
            refine wy_get (ci := 1) (v := .ref ca) (C := RX0) (T := TX0) (N := 11) hx hb hts hinX0 hown hK hw.1 hc0 rfl 2 (by decide) (hts (.fieldLink RX0 18 "Wheelpay$Ride" "charges" "[I") (by decide +kernel)) (fun _ h9 => h9) rfl dX0_addStretch_57 ?_
            refine lv_iload hx hb dX0_addStretch_60 (lv_at hl 0 rfl) ?_
            refine lv_dup2_11 hx hb dX0_addStretch_62 rfl rfl ?_
            refine wy_iald hx hb hK hw.1 hc1 (i) ei_i (by omega) (by omega) dX0_addStretch_63 ?_
            refine lv_iload hx hb dX0_addStretch_64 (lv_at hl 1 rfl) ?_
            refine lv_if_le (tgt := 76) hx hb dX0_addStretch_66 (by decide) (fun c_17 => ?_) (fun c_17 => ?_)
            · refine lv_iload hx hb dX0_addStretch_76 (lv_at hl 2 rfl) ?_
              refine lv_iadd hx hb dX0_addStretch_78 ?_
              refine lv_topi (fun x_18 ex_18 => ?_)
              refine wy_iast hx hb hK hw hc1 (i) ei_i (by omega) (by omega) dX0_addStretch_79 (fun H locs f_19 hs_20 hn_21 hw => ?_)
              have hc_22 := wy_c.ne2 hc0 hn_21 hq.2.2.2.1
              have hc_23 := wy_c.ne2 hc2 hn_21 hq.2.2.2.2.2.symm
              obtain ⟨x_24, ex_24⟩ : ∃ y : Int32, y = a_l + (-1) := ⟨_, rfl⟩
              refine lv_iinc (v := x_24) (lv' := [(5, .int x_24), (6, .int xi_i), (4, .int (p1 / nI (cb (rsd vv) 10))), (0, .ref ha), (1, .int p1), (2, .int p2)]) hx hb dX0_addStretch_80 hl (k := 1) rfl (by rw [ex_24]; rfl) (by decide) rfl (fun ls hl => ?_)
              obtain ⟨x_25, ex_25⟩ : ∃ y : Int32, y = xi_i + 1 := ⟨_, rfl⟩
              have nx_25 : x_25 = nI (i + 1) := by rw [ex_25, ei_i, nI_1]
              refine lv_iinc (v := x_25) (lv' := [(6, .int x_25), (5, .int x_24), (4, .int (p1 / nI (cb (rsd vv) 10))), (0, .ref ha), (1, .int p1), (2, .int p2)]) hx hb dX0_addStretch_83 hl (k := 1) rfl (by rw [ex_25]; rfl) (by decide) rfl (fun ls hl => ?_)
              refine lv_goto (tgt := 37) hx hb dX0_addStretch_86 (by decide) ?_
              exact ih_d (i + 1) (by omega) _ nx_25 _ (by rw [ex_24, ha_l]; exact cb_dec _ _ _ bc_15) _ _ _ hw hc_22 (by rw [← stch_t (z := x_18) _ _ _ _ _ bc_15 (by rw [if_neg (Int32.not_lt.mpr (by rw [← ha_l]; exact c_17))]; simp only [ex_18, ex_24, ex_25, stch_self])]; exact hs_20) hc_23 (fun z u0 u1 u2 => ((hn_21 z u1).trans (hfr z u0 u1 u2))) ls (lv_sub hl [0, 1, 2, 3, 4, 5] rfl)
            · refine lv_iload hx hb dX0_addStretch_69 (lv_at hl 2 rfl) ?_
              refine lv_iconst (v := 1) hx hb dX0_addStretch_71 (by decide) ?_
              refine lv_iadd hx hb dX0_addStretch_72 ?_
              refine lv_topi (fun x_26 ex_26 => ?_)
              refine lv_goto (tgt := 78) hx hb dX0_addStretch_73 (by decide) ?_
              refine lv_iadd hx hb dX0_addStretch_78 ?_
              refine lv_topi (fun x_27 ex_27 => ?_)
              refine wy_iast hx hb hK hw hc1 (i) ei_i (by omega) (by omega) dX0_addStretch_79 (fun H locs f_28 hs_29 hn_30 hw => ?_)
              have hc_31 := wy_c.ne2 hc0 hn_30 hq.2.2.2.1
              have hc_32 := wy_c.ne2 hc2 hn_30 hq.2.2.2.2.2.symm
              obtain ⟨x_33, ex_33⟩ : ∃ y : Int32, y = a_l + (-1) := ⟨_, rfl⟩
              refine lv_iinc (v := x_33) (lv' := [(5, .int x_33), (6, .int xi_i), (4, .int (p1 / nI (cb (rsd vv) 10))), (0, .ref ha), (1, .int p1), (2, .int p2)]) hx hb dX0_addStretch_80 hl (k := 1) rfl (by rw [ex_33]; rfl) (by decide) rfl (fun ls hl => ?_)
              obtain ⟨x_34, ex_34⟩ : ∃ y : Int32, y = xi_i + 1 := ⟨_, rfl⟩
              have nx_34 : x_34 = nI (i + 1) := by rw [ex_34, ei_i, nI_1]
              refine lv_iinc (v := x_34) (lv' := [(6, .int x_34), (5, .int x_33), (4, .int (p1 / nI (cb (rsd vv) 10))), (0, .ref ha), (1, .int p1), (2, .int p2)]) hx hb dX0_addStretch_83 hl (k := 1) rfl (by rw [ex_34]; rfl) (by decide) rfl (fun ls hl => ?_)
              refine lv_goto (tgt := 37) hx hb dX0_addStretch_86 (by decide) ?_
              exact ih_d (i + 1) (by omega) _ nx_34 _ (by rw [ex_33, ha_l]; exact cb_dec _ _ _ bc_15) _ _ _ hw hc_31 (by rw [← stch_t (z := x_27) _ _ _ _ _ bc_15 (by rw [if_pos (Int32.not_le.mp (by rw [← ha_l]; exact c_17))]; simp only [ex_26, ex_27, ex_33, ex_34, stch_self])]; exact hs_29) hc_32 (fun z u0 u1 u2 => ((hn_30 z u1).trans (hfr z u0 u1 u2))) ls (lv_sub hl [0, 1, 2, 3, 4, 5] rfl)
    exact KK (10) 0 (by omega) _ rfl _ (Int32.sub_zero _).symm _ _ _ hw hc_7 (by rw [stch_0]; exact hc_5) hc_6 (fun z u0 u1 u2 => (hn_4 z u0)) ls (lv_sub hl [0, 1, 2, 4, 5, 6] rfl)
  · refine lv_iconst (v := 0) hx hb dX0_addStretch_22 (by decide) ?_
    have h0 : cb (rsd vv) 10 = 0 := (nI_eq (Nat.lt_of_le_of_lt (cb_le _ _) (by decide)) (by decide)).mp (by rw [← nr_8]; exact c_9)
    have h1 : stchg (rsd vv) (rch vv) p1 = rch vv := by rw [stchg, if_pos h0]
    exact wy_iW hx hb hr hlocks dX0_addStretch_23 hw (Nat.le_of_ble_eq_true rfl) (Nat.le_of_ble_eq_true rfl) ⟨by rw [if_pos h0], rfl, by rw [vStr, h1]; exact ⟨hc_7, hc_5, hc_6, hq.2.2.2⟩, (fun z u0 u1 u2 => (hn_4 z u0))⟩
