set_option maxHeartbeats 4000000 in
set_option maxRecDepth 100000 in
/-- Integer.bitCount: its own arithmetic -/
theorem m_J6_bitCount_0f7a4 (l : Launch) (p0 : Int32) : Met l yJ6_bitCount_0f7a4 wsJ6_bitCount_0f7a4 ({ frames := 0, cells := 0, slots := 0, locals := 0 } : Room) (va_Pc [.int p0] (fun _ => True)) (vp_Si (fun z => z = bcf p0)) 0 0 (fun _ => False) := by
  refine Met.ofW (cc := cJ6_bitCount_0f7a4) (maxL := 1) (ret := (some .int)) (by decide) rfl ?_
  intro p e s m args below meth c s₁ B hml hv
  obtain ⟨rfl, -⟩ := hv
  have hx := B.exec
  have hb := B.bytes
  have hr := B.returns
  have hts := atoms_spec (ws := wsJ6_bitCount_0f7a4) B.pre
  have hown : s.vm.findClass RJ6 = some m.cls := findClass_of_methodNamed B.named
  have hlocks := B.notSynchronized
  have hl := lv_entry ([.int p0]) (n := 1) (Nat.le_of_ble_eq_true rfl)
  rw [lg_entry_eq]
  generalize (lg_sl ([.int p0]) ++ List.replicate (1 - (lg_sl ([.int p0])).length) Slot.unset).toArray = ls at hl ⊢
  have hl : lv_has ls 1 [(0, .int p0)] := hl
  refine lv_iload_n hx hb dJ6_bitCount_0f7a4_0 rfl (lv_at hl 0 rfl) ?_
  refine lv_iload_n hx hb dJ6_bitCount_0f7a4_1 rfl (lv_at hl 0 rfl) ?_
  refine lv_iconst (v := 1) hx hb dJ6_bitCount_0f7a4_2 (by decide) ?_
  refine lv_iushr hx hb dJ6_bitCount_0f7a4_3 rfl ?_
  refine lv_topi (fun x_2 ex_2 => ?_)
  refine lv_ldcw (v := 1431655765) hx hb hown (hts (.constant RJ6 265 (1431655765)) (by decide +kernel)) dJ6_bitCount_0f7a4_4 ?_
  refine lv_iand hx hb dJ6_bitCount_0f7a4_7 ?_
  refine lv_topi (fun x_3 ex_3 => ?_)
  refine lv_isub hx hb dJ6_bitCount_0f7a4_8 ?_
  refine lv_topi (fun x_4 ex_4 => ?_)
  refine lv_istore_n (lv' := [(0, .int x_4)]) hx hb dJ6_bitCount_0f7a4_9 rfl hl (by decide) rfl (fun ls hl => ?_)
  refine lv_iload_n hx hb dJ6_bitCount_0f7a4_10 rfl (lv_at hl 0 rfl) ?_
  refine lv_ldcw (v := 858993459) hx hb hown (hts (.constant RJ6 266 (858993459)) (by decide +kernel)) dJ6_bitCount_0f7a4_11 ?_
  refine lv_iand hx hb dJ6_bitCount_0f7a4_14 ?_
  refine lv_topi (fun x_5 ex_5 => ?_)
  refine lv_iload_n hx hb dJ6_bitCount_0f7a4_15 rfl (lv_at hl 0 rfl) ?_
  refine lv_iconst (v := 2) hx hb dJ6_bitCount_0f7a4_16 (by decide) ?_
  refine lv_iushr hx hb dJ6_bitCount_0f7a4_17 rfl ?_
  refine lv_topi (fun x_7 ex_7 => ?_)
  refine lv_ldcw (v := 858993459) hx hb hown (hts (.constant RJ6 266 (858993459)) (by decide +kernel)) dJ6_bitCount_0f7a4_18 ?_
  refine lv_iand hx hb dJ6_bitCount_0f7a4_21 ?_
  refine lv_topi (fun x_8 ex_8 => ?_)
  refine lv_iadd hx hb dJ6_bitCount_0f7a4_22 ?_
  refine lv_topi (fun x_9 ex_9 => ?_)
  refine lv_istore_n (lv' := [(0, .int x_9)]) hx hb dJ6_bitCount_0f7a4_23 rfl hl (by decide) rfl (fun ls hl => ?_)
  refine lv_iload_n hx hb dJ6_bitCount_0f7a4_24 rfl (lv_at hl 0 rfl) ?_
  refine lv_iload_n hx hb dJ6_bitCount_0f7a4_25 rfl (lv_at hl 0 rfl) ?_
  refine lv_iconst (v := 4) hx hb dJ6_bitCount_0f7a4_26 (by decide) ?_
  refine lv_iushr hx hb dJ6_bitCount_0f7a4_27 rfl ?_
  refine lv_topi (fun x_11 ex_11 => ?_)
  refine lv_iadd hx hb dJ6_bitCount_0f7a4_28 ?_
  refine lv_topi (fun x_12 ex_12 => ?_)
  refine lv_ldcw (v := 252645135) hx hb hown (hts (.constant RJ6 267 (252645135)) (by decide +kernel)) dJ6_bitCount_0f7a4_29 ?_
  refine lv_iand hx hb dJ6_bitCount_0f7a4_32 ?_
  refine lv_topi (fun x_13 ex_13 => ?_)
  refine lv_istore_n (lv' := [(0, .int x_13)]) hx hb dJ6_bitCount_0f7a4_33 rfl hl (by decide) rfl (fun ls hl => ?_)
  refine lv_iload_n hx hb dJ6_bitCount_0f7a4_34 rfl (lv_at hl 0 rfl) ?_
  refine lv_iload_n hx hb dJ6_bitCount_0f7a4_35 rfl (lv_at hl 0 rfl) ?_
  refine lv_bipush (v := 8) hx hb dJ6_bitCount_0f7a4_36 (by decide) ?_
  refine lv_iushr hx hb dJ6_bitCount_0f7a4_38 rfl ?_
  refine lv_topi (fun x_15 ex_15 => ?_)
  refine lv_iadd hx hb dJ6_bitCount_0f7a4_39 ?_
  refine lv_topi (fun x_16 ex_16 => ?_)
  refine lv_istore_n (lv' := [(0, .int x_16)]) hx hb dJ6_bitCount_0f7a4_40 rfl hl (by decide) rfl (fun ls hl => ?_)
  refine lv_iload_n hx hb dJ6_bitCount_0f7a4_41 rfl (lv_at hl 0 rfl) ?_
  refine lv_iload_n hx hb dJ6_bitCount_0f7a4_42 rfl (lv_at hl 0 rfl) ?_
  refine lv_bipush (v := 16) hx hb dJ6_bitCount_0f7a4_43 (by decide) ?_
  refine lv_iushr hx hb dJ6_bitCount_0f7a4_45 rfl ?_
  refine lv_topi (fun x_18 ex_18 => ?_)
  refine lv_iadd hx hb dJ6_bitCount_0f7a4_46 ?_
  refine lv_topi (fun x_19 ex_19 => ?_)
  refine lv_istore_n (lv' := [(0, .int x_19)]) hx hb dJ6_bitCount_0f7a4_47 rfl hl (by decide) rfl (fun ls hl => ?_)
  refine lv_iload_n hx hb dJ6_bitCount_0f7a4_48 rfl (lv_at hl 0 rfl) ?_
  refine lv_bipush (v := 63) hx hb dJ6_bitCount_0f7a4_49 (by decide) ?_
  refine lv_iand hx hb dJ6_bitCount_0f7a4_51 ?_
  refine lv_topi (fun x_20 ex_20 => ?_)
  exact wy_iR (by simp only [ex_2, ex_3, ex_4, ex_5, ex_7, ex_8, ex_9, ex_11, ex_12, ex_13, ex_15, ex_16, ex_18, ex_19, ex_20]; rfl) hx hb hr hlocks dJ6_bitCount_0f7a4_52
set_option maxHeartbeats 4000000 in
set_option maxRecDepth 100000 in
/-- the bit of a rider in a set -/
theorem m_X0_holds (l : Launch) (b : Nat → Bool) (p1 : Int32) (k : Nat) (hk : k < 10) (e1 : p1 = nI k) : Met l yX0_holds wsX0_holds ({ frames := 0, cells := 0, slots := 0, locals := 0 } : Room) (va_Pc [.int (mks b), .int p1] (fun _ => True)) (vp_Si (fun z => z = bI (b k))) 0 0 (fun _ => False) := by
  refine Met.ofW (cc := cX0_holds) (maxL := 2) (ret := (some .boolean)) (by decide) rfl ?_
  intro p e s m args below meth c s₁ B hml hv
  obtain ⟨rfl, -⟩ := hv
  have hx := B.exec
  have hb := B.bytes
  have hr := B.returns
  have hts := atoms_spec (ws := wsX0_holds) B.pre
  have hown : s.vm.findClass RX0 = some m.cls := findClass_of_methodNamed B.named
  have hlocks := B.notSynchronized
  have hl := lv_entry ([.int (mks b), .int p1]) (n := 2) (Nat.le_of_ble_eq_true rfl)
  rw [lg_entry_eq]
  generalize (lg_sl ([.int (mks b), .int p1]) ++ List.replicate (2 - (lg_sl ([.int (mks b), .int p1])).length) Slot.unset).toArray = ls at hl ⊢
  have hl : lv_has ls 2 [(0, .int (mks b)), (1, .int p1)] := hl
  refine lv_iload_n hx hb dX0_holds_0 rfl (lv_at hl 0 rfl) ?_
  refine lv_iload_n hx hb dX0_holds_1 rfl (lv_at hl 1 rfl) ?_
  refine lv_ishr hx hb dX0_holds_2 ?_
  refine lv_topi (fun x_1 ex_1 => ?_)
  refine lv_iconst (v := 1) hx hb dX0_holds_3 (by decide) ?_
  refine lv_iand hx hb dX0_holds_4 ?_
  refine lv_topi (fun x_2 ex_2 => ?_)
  refine lv_if_eq (tgt := 12) hx hb dX0_holds_5 (by decide) (fun c_3 => ?_) (fun c_3 => ?_)
  · have hbk : b k = false := (mks_holds b hk).mp (by rw [← e1]; simpa only [ex_1, ex_2] using c_3)
    refine lv_iconst (v := 0) hx hb dX0_holds_12 (by decide) ?_
    exact wy_zR (by rw [hbk]; rfl) hx hb hr hlocks dX0_holds_13
  · have hbk : b k = true := by
      cases hh : b k with
      | true => rfl
      | false => exact absurd (by simp only [ex_1, ex_2, e1]; exact (mks_holds b hk).mpr hh) c_3
    refine lv_iconst (v := 1) hx hb dX0_holds_8 (by decide) ?_
    refine lv_goto (tgt := 13) hx hb dX0_holds_9 (by decide) ?_
    exact wy_zR (by rw [hbk]; rfl) hx hb hr hlocks dX0_holds_13
set_option maxHeartbeats 4000000 in
set_option maxRecDepth 100000 in
/-- finished -/
theorem m_X0_isFinished (l : Launch) {G : wy_G} {L : List Nat} {f : Nat → va_E} {ha ca da : Nat} {vv : wr_V} (hq : wr_o G L f ha ca da vv) : Met l yX0_isFinished wsX0_isFinished ({ frames := 0, cells := 0, slots := 0, locals := 0 } : Room) (va_Pc [.ref ha] (wy_R G L f)) (vp_Si (fun z => z = bI (rfi vv))) 0 0 (fun _ => False) := by
  refine Met.ofW (cc := cX0_isFinished) (maxL := 1) (ret := (some .boolean)) (by decide) rfl ?_
  intro p e s m args below meth c s₁ B hml hv
  obtain ⟨rfl, hP, hK⟩ := hv
  have hx := B.exec
  have hb := B.bytes
  have hr := B.returns
  have hts := atoms_spec (ws := wsX0_isFinished) B.pre
  have hown : s.vm.findClass RX0 = some m.cls := findClass_of_methodNamed B.named
  have hlocks := B.notSynchronized
  have hinX0 : ∀ w ∈ wsX00, w ∈ wsX0_isFinished := by decide +kernel
  have hl := lv_entry ([.ref ha]) (n := 1) (Nat.le_of_ble_eq_true rfl)
  rw [lg_entry_eq]
  generalize (lg_sl ([.ref ha]) ++ List.replicate (1 - (lg_sl ([.ref ha])).length) Slot.unset).toArray = ls at hl ⊢
  have hl : lv_has ls 1 [(0, .ref ha)] := hl
  refine lv_aload_n hx hb dX0_isFinished_0 rfl (lv_at hl 0 rfl) ?_
  refine wy_get (ci := 1) (v := .int (bI (rfi vv))) (C := RX0) (T := TX0) (N := 11) hx hb hts hinX0 hown hK hP hq.1 rfl 5 (by decide) (hts (.fieldLink RX0 25 "Wheelpay$Ride" "finished" "Z") (by decide +kernel)) (fun _ h9 => h9) rfl dX0_isFinished_1 ?_
  exact wy_zR rfl hx hb hr hlocks dX0_isFinished_4
set_option maxHeartbeats 4000000 in
set_option maxRecDepth 100000 in
theorem m_X0_ridersAboard (l : Launch) {G : wy_G} {L : List Nat} {f : Nat → va_E} {ha ca da : Nat} {vv : wr_V} (hq : wr_o G L f ha ca da vv) : Met l yX0_ridersAboard wsX0_ridersAboard ({ frames := 0, cells := 0, slots := 0, locals := 0 } : Room) (va_Pc [.ref ha] (wy_R G L f)) (vp_Si (fun z => z = mks (rsd vv))) 0 0 (fun _ => False) := by
  refine Met.ofW (cc := cX0_ridersAboard) (maxL := 1) (ret := (some .int)) (by decide) rfl ?_
  intro p e s m args below meth c s₁ B hml hv
  obtain ⟨rfl, hP, hK⟩ := hv
  have hx := B.exec
  have hb := B.bytes
  have hr := B.returns
  have hts := atoms_spec (ws := wsX0_ridersAboard) B.pre
  have hown : s.vm.findClass RX0 = some m.cls := findClass_of_methodNamed B.named
  have hlocks := B.notSynchronized
  have hinX0 : ∀ w ∈ wsX00, w ∈ wsX0_ridersAboard := by decide +kernel
  have hl := lv_entry ([.ref ha]) (n := 1) (Nat.le_of_ble_eq_true rfl)
  rw [lg_entry_eq]
  generalize (lg_sl ([.ref ha]) ++ List.replicate (1 - (lg_sl ([.ref ha])).length) Slot.unset).toArray = ls at hl ⊢
  have hl : lv_has ls 1 [(0, .ref ha)] := hl
  refine lv_aload_n hx hb dX0_ridersAboard_0 rfl (lv_at hl 0 rfl) ?_
  refine wy_get (ci := 1) (v := .int (mks (rsd vv))) (C := RX0) (T := TX0) (N := 11) hx hb hts hinX0 hown hK hP hq.1 rfl 7 (by decide) (hts (.fieldLink RX0 36 "Wheelpay$Ride" "seated" "I") (by decide +kernel)) (fun _ h9 => h9) rfl dX0_ridersAboard_1 ?_
  exact wy_iR rfl hx hb hr hlocks dX0_ridersAboard_4
set_option maxHeartbeats 4000000 in
set_option maxRecDepth 100000 in
theorem m_X0_allMinutes (l : Launch) {G : wy_G} {L : List Nat} {f : Nat → va_E} {ha ca da : Nat} {vv : wr_V} (hq : wr_o G L f ha ca da vv) : Met l yX0_allMinutes wsX0_allMinutes ({ frames := 0, cells := 0, slots := 0, locals := 0 } : Room) (va_Pc [.ref ha] (wy_R G L f)) (vp_Si (fun z => z = rmi vv)) 0 0 (fun _ => False) := by
  refine Met.ofW (cc := cX0_allMinutes) (maxL := 1) (ret := (some .int)) (by decide) rfl ?_
  intro p e s m args below meth c s₁ B hml hv
  obtain ⟨rfl, hP, hK⟩ := hv
  have hx := B.exec
  have hb := B.bytes
  have hr := B.returns
  have hts := atoms_spec (ws := wsX0_allMinutes) B.pre
  have hown : s.vm.findClass RX0 = some m.cls := findClass_of_methodNamed B.named
  have hlocks := B.notSynchronized
  have hinX0 : ∀ w ∈ wsX00, w ∈ wsX0_allMinutes := by decide +kernel
  have hl := lv_entry ([.ref ha]) (n := 1) (Nat.le_of_ble_eq_true rfl)
  rw [lg_entry_eq]
  generalize (lg_sl ([.ref ha]) ++ List.replicate (1 - (lg_sl ([.ref ha])).length) Slot.unset).toArray = ls at hl ⊢
  have hl : lv_has ls 1 [(0, .ref ha)] := hl
  refine lv_aload_n hx hb dX0_allMinutes_0 rfl (lv_at hl 0 rfl) ?_
  refine wy_get (ci := 1) (v := .int (rmi vv)) (C := RX0) (T := TX0) (N := 11) hx hb hts hinX0 hown hK hP hq.1 rfl 4 (by decide) (hts (.fieldLink RX0 51 "Wheelpay$Ride" "minutes" "I") (by decide +kernel)) (fun _ h9 => h9) rfl dX0_allMinutes_1 ?_
  exact wy_iR rfl hx hb hr hlocks dX0_allMinutes_4
set_option maxHeartbeats 4000000 in
set_option maxRecDepth 100000 in
theorem m_X0_chargeOf (l : Launch) {G : wy_G} {L : List Nat} {f : Nat → va_E} {ha ca da : Nat} {vv : wr_V} (hq : wr_o G L f ha ca da vv) (p1 : Int32) (k : Nat) (hk : k < 10) (e1 : p1 = nI k) : Met l yX0_chargeOf wsX0_chargeOf ({ frames := 0, cells := 0, slots := 0, locals := 0 } : Room) (va_Pc [.ref ha, .int p1] (wy_R G L f)) (vp_Si (fun z => z = rch vv k)) 0 0 (fun _ => False) := by
  refine Met.ofW (cc := cX0_chargeOf) (maxL := 2) (ret := (some .int)) (by decide) rfl ?_
  intro p e s m args below meth c s₁ B hml hv
  obtain ⟨rfl, hP, hK⟩ := hv
  have hx := B.exec
  have hb := B.bytes
  have hr := B.returns
  have hts := atoms_spec (ws := wsX0_chargeOf) B.pre
  have hown : s.vm.findClass RX0 = some m.cls := findClass_of_methodNamed B.named
  have hlocks := B.notSynchronized
  have hinX0 : ∀ w ∈ wsX00, w ∈ wsX0_chargeOf := by decide +kernel
  have hl := lv_entry ([.ref ha, .int p1]) (n := 2) (Nat.le_of_ble_eq_true rfl)
  rw [lg_entry_eq]
  generalize (lg_sl ([.ref ha, .int p1]) ++ List.replicate (2 - (lg_sl ([.ref ha, .int p1])).length) Slot.unset).toArray = ls at hl ⊢
  have hl : lv_has ls 2 [(0, .ref ha), (1, .int p1)] := hl
  refine lv_aload_n hx hb dX0_chargeOf_0 rfl (lv_at hl 0 rfl) ?_
  refine wy_get (ci := 1) (v := .ref ca) (C := RX0) (T := TX0) (N := 11) hx hb hts hinX0 hown hK hP hq.1 rfl 2 (by decide) (hts (.fieldLink RX0 18 "Wheelpay$Ride" "charges" "[I") (by decide +kernel)) (fun _ h9 => h9) rfl dX0_chargeOf_1 ?_
  refine lv_iload_n hx hb dX0_chargeOf_4 rfl (lv_at hl 1 rfl) ?_
  refine wy_iald hx hb hK hP hq.2.1 (k) e1 (by omega) (by omega) dX0_chargeOf_5 ?_
  exact wy_iR rfl hx hb hr hlocks dX0_chargeOf_6
set_option maxHeartbeats 4000000 in
set_option maxRecDepth 100000 in
theorem m_X0_refundOf (l : Launch) {G : wy_G} {L : List Nat} {f : Nat → va_E} {ha ca da : Nat} {vv : wr_V} (hq : wr_o G L f ha ca da vv) (p1 : Int32) (k : Nat) (hk : k < 10) (e1 : p1 = nI k) : Met l yX0_refundOf wsX0_refundOf ({ frames := 0, cells := 0, slots := 0, locals := 0 } : Room) (va_Pc [.ref ha, .int p1] (wy_R G L f)) (vp_Si (fun z => z = rrf vv k)) 0 0 (fun _ => False) := by
  refine Met.ofW (cc := cX0_refundOf) (maxL := 2) (ret := (some .int)) (by decide) rfl ?_
  intro p e s m args below meth c s₁ B hml hv
  obtain ⟨rfl, hP, hK⟩ := hv
  have hx := B.exec
  have hb := B.bytes
  have hr := B.returns
  have hts := atoms_spec (ws := wsX0_refundOf) B.pre
  have hown : s.vm.findClass RX0 = some m.cls := findClass_of_methodNamed B.named
  have hlocks := B.notSynchronized
  have hinX0 : ∀ w ∈ wsX00, w ∈ wsX0_refundOf := by decide +kernel
  have hl := lv_entry ([.ref ha, .int p1]) (n := 2) (Nat.le_of_ble_eq_true rfl)
  rw [lg_entry_eq]
  generalize (lg_sl ([.ref ha, .int p1]) ++ List.replicate (2 - (lg_sl ([.ref ha, .int p1])).length) Slot.unset).toArray = ls at hl ⊢
  have hl : lv_has ls 2 [(0, .ref ha), (1, .int p1)] := hl
  refine lv_aload_n hx hb dX0_refundOf_0 rfl (lv_at hl 0 rfl) ?_
  refine wy_get (ci := 1) (v := .ref da) (C := RX0) (T := TX0) (N := 11) hx hb hts hinX0 hown hK hP hq.1 rfl 3 (by decide) (hts (.fieldLink RX0 22 "Wheelpay$Ride" "refunds" "[I") (by decide +kernel)) (fun _ h9 => h9) rfl dX0_refundOf_1 ?_
  refine lv_iload_n hx hb dX0_refundOf_4 rfl (lv_at hl 1 rfl) ?_
  refine wy_iald hx hb hK hP hq.2.2.1 (k) e1 (by omega) (by omega) dX0_refundOf_5 ?_
  exact wy_iR rfl hx hb hr hlocks dX0_refundOf_6
set_option maxHeartbeats 4000000 in
set_option maxRecDepth 100000 in
theorem m_X0_hasBooked (l : Launch) {G : wy_G} {L : List Nat} {f : Nat → va_E} {ha ca da : Nat} {vv : wr_V} (hq : wr_o G L f ha ca da vv) (p1 : Int32) (k : Nat) (hk : k < 10) (e1 : p1 = nI k) : Met l yX0_hasBooked wsX0_hasBooked ({ frames := 1, cells := 0, slots := 0, locals := 21 } : Room) (va_Pc [.ref ha, .int p1] (wy_R G L f)) (vp_Si (fun z => z = bI (rbk vv k))) 0 0 (fun _ => False) := by
  refine Met.ofW (cc := cX0_hasBooked) (maxL := 2) (ret := (some .boolean)) (by decide) rfl ?_
  intro p e s m args below meth c s₁ B hml hv
  obtain ⟨rfl, hP, hK⟩ := hv
  have hx := B.exec
  have hb := B.bytes
  have hr := B.returns
  have hts := atoms_spec (ws := wsX0_hasBooked) B.pre
  have hown : s.vm.findClass RX0 = some m.cls := findClass_of_methodNamed B.named
  have hlocks := B.notSynchronized
  have hinX0 : ∀ w ∈ wsX00, w ∈ wsX0_hasBooked := by decide +kernel
  have hl := lv_entry ([.ref ha, .int p1]) (n := 2) (Nat.le_of_ble_eq_true rfl)
  rw [lg_entry_eq]
  generalize (lg_sl ([.ref ha, .int p1]) ++ List.replicate (2 - (lg_sl ([.ref ha, .int p1])).length) Slot.unset).toArray = ls at hl ⊢
  have hl : lv_has ls 2 [(0, .ref ha), (1, .int p1)] := hl
  refine lv_aload_n hx hb dX0_hasBooked_0 rfl (lv_at hl 0 rfl) ?_
  refine wy_get (ci := 1) (v := .int (mks (rbk vv))) (C := RX0) (T := TX0) (N := 11) hx hb hts hinX0 hown hK hP hq.1 rfl 6 (by decide) (hts (.fieldLink RX0 29 "Wheelpay$Ride" "booked" "I") (by decide +kernel)) (fun _ h9 => h9) rfl dX0_hasBooked_1 ?_
  refine lv_iload_n hx hb dX0_hasBooked_4 rfl (lv_at hl 1 rfl) ?_
  refine vp_callSi (W.runS (As := [.int (mks (rbk vv)), .int p1]) (rest := []) ⟨hx, hb, hml, hown, hts⟩ (m_X0_holds l (rbk vv) (p1) (k) hk e1) (va_cwS 2 hts gX0_hasBooked_X0_holds rfl rfl rfl (by decide +kernel) ⟨Nat.le_of_ble_eq_true rfl, Nat.le_of_ble_eq_true rfl⟩) (wy_pSN) rfl rfl hl.1 rfl (lv_room (Nat.le_of_ble_eq_true rfl)) dX0_hasBooked_5 ⟨Nat.le_of_ble_eq_true rfl, Nat.le_of_ble_eq_true rfl⟩) (fun r_1 er_1 => ?_)
  exact wy_zR er_1 hx hb hr hlocks dX0_hasBooked_8
set_option maxHeartbeats 4000000 in
set_option maxRecDepth 100000 in
theorem m_X0_hasAboard (l : Launch) {G : wy_G} {L : List Nat} {f : Nat → va_E} {ha ca da : Nat} {vv : wr_V} (hq : wr_o G L f ha ca da vv) (p1 : Int32) (k : Nat) (hk : k < 10) (e1 : p1 = nI k) : Met l yX0_hasAboard wsX0_hasAboard ({ frames := 1, cells := 0, slots := 0, locals := 21 } : Room) (va_Pc [.ref ha, .int p1] (wy_R G L f)) (vp_Si (fun z => z = bI (rsd vv k))) 0 0 (fun _ => False) := by
  refine Met.ofW (cc := cX0_hasAboard) (maxL := 2) (ret := (some .boolean)) (by decide) rfl ?_
  intro p e s m args below meth c s₁ B hml hv
  obtain ⟨rfl, hP, hK⟩ := hv
  have hx := B.exec
  have hb := B.bytes
  have hr := B.returns
  have hts := atoms_spec (ws := wsX0_hasAboard) B.pre
  have hown : s.vm.findClass RX0 = some m.cls := findClass_of_methodNamed B.named
  have hlocks := B.notSynchronized
  have hinX0 : ∀ w ∈ wsX00, w ∈ wsX0_hasAboard := by decide +kernel
  have hl := lv_entry ([.ref ha, .int p1]) (n := 2) (Nat.le_of_ble_eq_true rfl)
  rw [lg_entry_eq]
  generalize (lg_sl ([.ref ha, .int p1]) ++ List.replicate (2 - (lg_sl ([.ref ha, .int p1])).length) Slot.unset).toArray = ls at hl ⊢
  have hl : lv_has ls 2 [(0, .ref ha), (1, .int p1)] := hl
  refine lv_aload_n hx hb dX0_hasAboard_0 rfl (lv_at hl 0 rfl) ?_
  refine wy_get (ci := 1) (v := .int (mks (rsd vv))) (C := RX0) (T := TX0) (N := 11) hx hb hts hinX0 hown hK hP hq.1 rfl 7 (by decide) (hts (.fieldLink RX0 36 "Wheelpay$Ride" "seated" "I") (by decide +kernel)) (fun _ h9 => h9) rfl dX0_hasAboard_1 ?_
  refine lv_iload_n hx hb dX0_hasAboard_4 rfl (lv_at hl 1 rfl) ?_
  refine vp_callSi (W.runS (As := [.int (mks (rsd vv)), .int p1]) (rest := []) ⟨hx, hb, hml, hown, hts⟩ (m_X0_holds l (rsd vv) (p1) (k) hk e1) (va_cwS 2 hts gX0_hasAboard_X0_holds rfl rfl rfl (by decide +kernel) ⟨Nat.le_of_ble_eq_true rfl, Nat.le_of_ble_eq_true rfl⟩) (wy_pSN) rfl rfl hl.1 rfl (lv_room (Nat.le_of_ble_eq_true rfl)) dX0_hasAboard_5 ⟨Nat.le_of_ble_eq_true rfl, Nat.le_of_ble_eq_true rfl⟩) (fun r_1 er_1 => ?_)
  exact wy_zR er_1 hx hb hr hlocks dX0_hasAboard_8
set_option maxHeartbeats 4000000 in
set_option maxRecDepth 100000 in
theorem m_X0_hasDisputed (l : Launch) {G : wy_G} {L : List Nat} {f : Nat → va_E} {ha ca da : Nat} {vv : wr_V} (hq : wr_o G L f ha ca da vv) (p1 : Int32) (k : Nat) (hk : k < 10) (e1 : p1 = nI k) : Met l yX0_hasDisputed wsX0_hasDisputed ({ frames := 1, cells := 0, slots := 0, locals := 21 } : Room) (va_Pc [.ref ha, .int p1] (wy_R G L f)) (vp_Si (fun z => z = bI (rdp vv k))) 0 0 (fun _ => False) := by
  refine Met.ofW (cc := cX0_hasDisputed) (maxL := 2) (ret := (some .boolean)) (by decide) rfl ?_
  intro p e s m args below meth c s₁ B hml hv
  obtain ⟨rfl, hP, hK⟩ := hv
  have hx := B.exec
  have hb := B.bytes
  have hr := B.returns
  have hts := atoms_spec (ws := wsX0_hasDisputed) B.pre
  have hown : s.vm.findClass RX0 = some m.cls := findClass_of_methodNamed B.named
  have hlocks := B.notSynchronized
  have hinX0 : ∀ w ∈ wsX00, w ∈ wsX0_hasDisputed := by decide +kernel
  have hl := lv_entry ([.ref ha, .int p1]) (n := 2) (Nat.le_of_ble_eq_true rfl)
  rw [lg_entry_eq]
  generalize (lg_sl ([.ref ha, .int p1]) ++ List.replicate (2 - (lg_sl ([.ref ha, .int p1])).length) Slot.unset).toArray = ls at hl ⊢
  have hl : lv_has ls 2 [(0, .ref ha), (1, .int p1)] := hl
  refine lv_aload_n hx hb dX0_hasDisputed_0 rfl (lv_at hl 0 rfl) ?_
  refine wy_get (ci := 1) (v := .int (mks (rdp vv))) (C := RX0) (T := TX0) (N := 11) hx hb hts hinX0 hown hK hP hq.1 rfl 8 (by decide) (hts (.fieldLink RX0 39 "Wheelpay$Ride" "disputed" "I") (by decide +kernel)) (fun _ h9 => h9) rfl dX0_hasDisputed_1 ?_
  refine lv_iload_n hx hb dX0_hasDisputed_4 rfl (lv_at hl 1 rfl) ?_
  refine vp_callSi (W.runS (As := [.int (mks (rdp vv)), .int p1]) (rest := []) ⟨hx, hb, hml, hown, hts⟩ (m_X0_holds l (rdp vv) (p1) (k) hk e1) (va_cwS 2 hts gX0_hasDisputed_X0_holds rfl rfl rfl (by decide +kernel) ⟨Nat.le_of_ble_eq_true rfl, Nat.le_of_ble_eq_true rfl⟩) (wy_pSN) rfl rfl hl.1 rfl (lv_room (Nat.le_of_ble_eq_true rfl)) dX0_hasDisputed_5 ⟨Nat.le_of_ble_eq_true rfl, Nat.le_of_ble_eq_true rfl⟩) (fun r_1 er_1 => ?_)
  exact wy_zR er_1 hx hb hr hlocks dX0_hasDisputed_8
set_option maxHeartbeats 4000000 in
set_option maxRecDepth 100000 in
theorem m_X0_hasSettled (l : Launch) {G : wy_G} {L : List Nat} {f : Nat → va_E} {ha ca da : Nat} {vv : wr_V} (hq : wr_o G L f ha ca da vv) (p1 : Int32) (k : Nat) (hk : k < 10) (e1 : p1 = nI k) : Met l yX0_hasSettled wsX0_hasSettled ({ frames := 1, cells := 0, slots := 0, locals := 21 } : Room) (va_Pc [.ref ha, .int p1] (wy_R G L f)) (vp_Si (fun z => z = bI (rse vv k))) 0 0 (fun _ => False) := by
  refine Met.ofW (cc := cX0_hasSettled) (maxL := 2) (ret := (some .boolean)) (by decide) rfl ?_
  intro p e s m args below meth c s₁ B hml hv
  obtain ⟨rfl, hP, hK⟩ := hv
  have hx := B.exec
  have hb := B.bytes
  have hr := B.returns
  have hts := atoms_spec (ws := wsX0_hasSettled) B.pre
  have hown : s.vm.findClass RX0 = some m.cls := findClass_of_methodNamed B.named
  have hlocks := B.notSynchronized
  have hinX0 : ∀ w ∈ wsX00, w ∈ wsX0_hasSettled := by decide +kernel
  have hl := lv_entry ([.ref ha, .int p1]) (n := 2) (Nat.le_of_ble_eq_true rfl)
  rw [lg_entry_eq]
  generalize (lg_sl ([.ref ha, .int p1]) ++ List.replicate (2 - (lg_sl ([.ref ha, .int p1])).length) Slot.unset).toArray = ls at hl ⊢
  have hl : lv_has ls 2 [(0, .ref ha), (1, .int p1)] := hl
  refine lv_aload_n hx hb dX0_hasSettled_0 rfl (lv_at hl 0 rfl) ?_
  refine wy_get (ci := 1) (v := .int (mks (rse vv))) (C := RX0) (T := TX0) (N := 11) hx hb hts hinX0 hown hK hP hq.1 rfl 9 (by decide) (hts (.fieldLink RX0 42 "Wheelpay$Ride" "settled" "I") (by decide +kernel)) (fun _ h9 => h9) rfl dX0_hasSettled_1 ?_
  refine lv_iload_n hx hb dX0_hasSettled_4 rfl (lv_at hl 1 rfl) ?_
  refine vp_callSi (W.runS (As := [.int (mks (rse vv)), .int p1]) (rest := []) ⟨hx, hb, hml, hown, hts⟩ (m_X0_holds l (rse vv) (p1) (k) hk e1) (va_cwS 2 hts gX0_hasSettled_X0_holds rfl rfl rfl (by decide +kernel) ⟨Nat.le_of_ble_eq_true rfl, Nat.le_of_ble_eq_true rfl⟩) (wy_pSN) rfl rfl hl.1 rfl (lv_room (Nat.le_of_ble_eq_true rfl)) dX0_hasSettled_5 ⟨Nat.le_of_ble_eq_true rfl, Nat.le_of_ble_eq_true rfl⟩) (fun r_1 er_1 => ?_)
  exact wy_zR er_1 hx hb hr hlocks dX0_hasSettled_8
set_option maxHeartbeats 4000000 in
set_option maxRecDepth 100000 in
theorem m_X0_isDrivenBy (l : Launch) {G : wy_G} {L : List Nat} {f : Nat → va_E} {ha ca da : Nat} {vv : wr_V} (hq : wr_o G L f ha ca da vv) (p1 : Int32) : Met l yX0_isDrivenBy wsX0_isDrivenBy ({ frames := 0, cells := 0, slots := 0, locals := 0 } : Room) (va_Pc [.ref ha, .int p1] (wy_R G L f)) (vp_Si (fun z => z = bI (decide (rdv vv = p1)))) 0 0 (fun _ => False) := by
  refine Met.ofW (cc := cX0_isDrivenBy) (maxL := 2) (ret := (some .boolean)) (by decide) rfl ?_
  intro p e s m args below meth c s₁ B hml hv
  obtain ⟨rfl, hP, hK⟩ := hv
  have hx := B.exec
  have hb := B.bytes
  have hr := B.returns
  have hts := atoms_spec (ws := wsX0_isDrivenBy) B.pre
  have hown : s.vm.findClass RX0 = some m.cls := findClass_of_methodNamed B.named
  have hlocks := B.notSynchronized
  have hinX0 : ∀ w ∈ wsX00, w ∈ wsX0_isDrivenBy := by decide +kernel
  have hl := lv_entry ([.ref ha, .int p1]) (n := 2) (Nat.le_of_ble_eq_true rfl)
  rw [lg_entry_eq]
  generalize (lg_sl ([.ref ha, .int p1]) ++ List.replicate (2 - (lg_sl ([.ref ha, .int p1])).length) Slot.unset).toArray = ls at hl ⊢
  have hl : lv_has ls 2 [(0, .ref ha), (1, .int p1)] := hl
  refine lv_aload_n hx hb dX0_isDrivenBy_0 rfl (lv_at hl 0 rfl) ?_
  refine wy_get (ci := 1) (v := .int (rdv vv)) (C := RX0) (T := TX0) (N := 11) hx hb hts hinX0 hown hK hP hq.1 rfl 0 (by decide) (hts (.fieldLink RX0 9 "Wheelpay$Ride" "driver" "I") (by decide +kernel)) (fun _ h9 => h9) rfl dX0_isDrivenBy_1 ?_
  refine lv_iload_n hx hb dX0_isDrivenBy_4 rfl (lv_at hl 1 rfl) ?_
  refine lv_icmp_ne (tgt := 12) hx hb dX0_isDrivenBy_5 (by decide) (fun c_1 => ?_) (fun c_1 => ?_)
  · refine lv_iconst (v := 0) hx hb dX0_isDrivenBy_12 (by decide) ?_
    exact wy_zR (by simp [bI, c_1]) hx hb hr hlocks dX0_isDrivenBy_13
  · refine lv_iconst (v := 1) hx hb dX0_isDrivenBy_8 (by decide) ?_
    refine lv_goto (tgt := 13) hx hb dX0_isDrivenBy_9 (by decide) ?_
    exact wy_zR (by simp [bI, c_1]) hx hb hr hlocks dX0_isDrivenBy_13
set_option maxHeartbeats 4000000 in
set_option maxRecDepth 100000 in
theorem m_X0_isFinishedBy (l : Launch) {G : wy_G} {L : List Nat} {f : Nat → va_E} {ha ca da : Nat} {vv : wr_V} (hq : wr_o G L f ha ca da vv) (p1 p2 : Int32) : Met l yX0_isFinishedBy wsX0_isFinishedBy ({ frames := 0, cells := 0, slots := 0, locals := 0 } : Room) (va_Pc [.ref ha, .int p1, .int p2] (wy_R G L f)) (vp_Si (fun z => z = bI (fbyR vv p1 p2))) 0 0 (fun _ => False) := by
  refine Met.ofW (cc := cX0_isFinishedBy) (maxL := 3) (ret := (some .boolean)) (by decide) rfl ?_
  intro p e s m args below meth c s₁ B hml hv
  obtain ⟨rfl, hP, hK⟩ := hv
  have hx := B.exec
  have hb := B.bytes
  have hr := B.returns
  have hts := atoms_spec (ws := wsX0_isFinishedBy) B.pre
  have hown : s.vm.findClass RX0 = some m.cls := findClass_of_methodNamed B.named
  have hlocks := B.notSynchronized
  have hinX0 : ∀ w ∈ wsX00, w ∈ wsX0_isFinishedBy := by decide +kernel
  have hl := lv_entry ([.ref ha, .int p1, .int p2]) (n := 3) (Nat.le_of_ble_eq_true rfl)
  rw [lg_entry_eq]
  generalize (lg_sl ([.ref ha, .int p1, .int p2]) ++ List.replicate (3 - (lg_sl ([.ref ha, .int p1, .int p2])).length) Slot.unset).toArray = ls at hl ⊢
  have hl : lv_has ls 3 [(0, .ref ha), (1, .int p1), (2, .int p2)] := hl
  refine lv_aload_n hx hb dX0_isFinishedBy_0 rfl (lv_at hl 0 rfl) ?_
  refine wy_get (ci := 1) (v := .int (bI (rfi vv))) (C := RX0) (T := TX0) (N := 11) hx hb hts hinX0 hown hK hP hq.1 rfl 5 (by decide) (hts (.fieldLink RX0 25 "Wheelpay$Ride" "finished" "Z") (by decide +kernel)) (fun _ h9 => h9) rfl dX0_isFinishedBy_1 ?_
  refine lv_if_eq (tgt := 27) hx hb dX0_isFinishedBy_4 (by decide) (fun c_1 => ?_) (fun c_1 => ?_)
  · have bc_1 : (rfi vv) = false := bI_0 (rfl.symm.trans c_1)
    refine lv_iconst (v := 0) hx hb dX0_isFinishedBy_27 (by decide) ?_
    exact wy_zR (by simp [bI, fbyR, bc_1]) hx hb hr hlocks dX0_isFinishedBy_28
  · have bc_1 : (rfi vv) = true := bI_1 (fun z => c_1 (rfl.trans z))
    refine lv_aload_n hx hb dX0_isFinishedBy_7 rfl (lv_at hl 0 rfl) ?_
    refine wy_get (ci := 1) (v := .int (rdv vv)) (C := RX0) (T := TX0) (N := 11) hx hb hts hinX0 hown hK hP hq.1 rfl 0 (by decide) (hts (.fieldLink RX0 9 "Wheelpay$Ride" "driver" "I") (by decide +kernel)) (fun _ h9 => h9) rfl dX0_isFinishedBy_8 ?_
    refine lv_iload_n hx hb dX0_isFinishedBy_11 rfl (lv_at hl 1 rfl) ?_
    refine lv_icmp_ne (tgt := 27) hx hb dX0_isFinishedBy_12 (by decide) (fun c_2 => ?_) (fun c_2 => ?_)
    · refine lv_iconst (v := 0) hx hb dX0_isFinishedBy_27 (by decide) ?_
      exact wy_zR (by simp [bI, fbyR, bc_1, c_2]) hx hb hr hlocks dX0_isFinishedBy_28
    · refine lv_aload_n hx hb dX0_isFinishedBy_15 rfl (lv_at hl 0 rfl) ?_
      refine wy_get (ci := 1) (v := .int (rwk vv)) (C := RX0) (T := TX0) (N := 11) hx hb hts hinX0 hown hK hP hq.1 rfl 1 (by decide) (hts (.fieldLink RX0 15 "Wheelpay$Ride" "startWeek" "I") (by decide +kernel)) (fun _ h9 => h9) rfl dX0_isFinishedBy_16 ?_
      refine lv_iload_n hx hb dX0_isFinishedBy_19 rfl (lv_at hl 2 rfl) ?_
      refine lv_icmp_ne (tgt := 27) hx hb dX0_isFinishedBy_20 (by decide) (fun c_3 => ?_) (fun c_3 => ?_)
      · refine lv_iconst (v := 0) hx hb dX0_isFinishedBy_27 (by decide) ?_
        exact wy_zR (by simp [bI, fbyR, bc_1, c_2, c_3]) hx hb hr hlocks dX0_isFinishedBy_28
      · refine lv_iconst (v := 1) hx hb dX0_isFinishedBy_23 (by decide) ?_
        refine lv_goto (tgt := 28) hx hb dX0_isFinishedBy_24 (by decide) ?_
        exact wy_zR (by simp [bI, fbyR, bc_1, c_2, c_3]) hx hb hr hlocks dX0_isFinishedBy_28
set_option maxHeartbeats 4000000 in
set_option maxRecDepth 100000 in
theorem m_X0_freeSeats (l : Launch) {G : wy_G} {L : List Nat} {f : Nat → va_E} {ha ca da : Nat} {vv : wr_V} (hq : wr_o G L f ha ca da vv) : Met l yX0_freeSeats wsX0_freeSeats ({ frames := 1, cells := 0, slots := 0, locals := 20 } : Room) (va_Pc [.ref ha] (wy_R G L f)) (vp_Si (fun z => z = freeR vv)) 0 0 (fun _ => False) := by
  refine Met.ofW (cc := cX0_freeSeats) (maxL := 1) (ret := (some .int)) (by decide) rfl ?_
  intro p e s m args below meth c s₁ B hml hv
  obtain ⟨rfl, hP, hK⟩ := hv
  have hx := B.exec
  have hb := B.bytes
  have hr := B.returns
  have hts := atoms_spec (ws := wsX0_freeSeats) B.pre
  have hown : s.vm.findClass RX0 = some m.cls := findClass_of_methodNamed B.named
  have hlocks := B.notSynchronized
  have hinX0 : ∀ w ∈ wsX00, w ∈ wsX0_freeSeats := by decide +kernel
  have hl := lv_entry ([.ref ha]) (n := 1) (Nat.le_of_ble_eq_true rfl)
  rw [lg_entry_eq]
  generalize (lg_sl ([.ref ha]) ++ List.replicate (1 - (lg_sl ([.ref ha])).length) Slot.unset).toArray = ls at hl ⊢
  have hl : lv_has ls 1 [(0, .ref ha)] := hl
  refine lv_iconst (v := 4) hx hb dX0_freeSeats_0 (by decide) ?_
  refine lv_aload_n hx hb dX0_freeSeats_1 rfl (lv_at hl 0 rfl) ?_
  refine wy_get (ci := 1) (v := .int (mks (rbk vv))) (C := RX0) (T := TX0) (N := 11) hx hb hts hinX0 hown hK hP hq.1 rfl 6 (by decide) (hts (.fieldLink RX0 29 "Wheelpay$Ride" "booked" "I") (by decide +kernel)) (fun _ h9 => h9) rfl dX0_freeSeats_2 ?_
  refine vp_callSi (W.runS (As := [.int (mks (rbk vv))]) (rest := [.int 4]) ⟨hx, hb, hml, hown, hts⟩ (m_J6_bitCount_0f7a4 l (mks (rbk vv))) (va_cwS 1 hts gX0_freeSeats_J6_bitCount_0f7a4 rfl rfl rfl (by decide +kernel) ⟨Nat.le_of_ble_eq_true rfl, Nat.le_of_ble_eq_true rfl⟩) (wy_pSN) rfl rfl hl.1 rfl (lv_room (Nat.le_of_ble_eq_true rfl)) dX0_freeSeats_5 ⟨Nat.le_of_ble_eq_true rfl, Nat.le_of_ble_eq_true rfl⟩) (fun r_1 er_1 => ?_)
  have nr_1 : r_1 = nI (cb (rbk vv) 10) := er_1.trans (bcf_mks _)
  refine lv_isub hx hb dX0_freeSeats_8 ?_
  refine lv_topi (fun x_2 ex_2 => ?_)
  refine lv_aload_n hx hb dX0_freeSeats_9 rfl (lv_at hl 0 rfl) ?_
  refine wy_get (ci := 1) (v := .int (mks (rsd vv))) (C := RX0) (T := TX0) (N := 11) hx hb hts hinX0 hown hK hP hq.1 rfl 7 (by decide) (hts (.fieldLink RX0 36 "Wheelpay$Ride" "seated" "I") (by decide +kernel)) (fun _ h9 => h9) rfl dX0_freeSeats_10 ?_
  refine vp_callSi (W.runS (As := [.int (mks (rsd vv))]) (rest := [.int x_2]) ⟨hx, hb, hml, hown, hts⟩ (m_J6_bitCount_0f7a4 l (mks (rsd vv))) (va_cwS 1 hts gX0_freeSeats_J6_bitCount_0f7a4 rfl rfl rfl (by decide +kernel) ⟨Nat.le_of_ble_eq_true rfl, Nat.le_of_ble_eq_true rfl⟩) (wy_pSN) rfl rfl hl.1 rfl (lv_room (Nat.le_of_ble_eq_true rfl)) dX0_freeSeats_13 ⟨Nat.le_of_ble_eq_true rfl, Nat.le_of_ble_eq_true rfl⟩) (fun r_3 er_3 => ?_)
  have nr_3 : r_3 = nI (cb (rsd vv) 10) := er_3.trans (bcf_mks _)
  refine lv_isub hx hb dX0_freeSeats_16 ?_
  refine lv_topi (fun x_4 ex_4 => ?_)
  exact wy_iR (by simp only [nr_1, ex_2, nr_3, ex_4]; rfl) hx hb hr hlocks dX0_freeSeats_17
set_option maxHeartbeats 4000000 in
set_option maxRecDepth 100000 in
theorem m_X0_unsettledDisputes (l : Launch) {G : wy_G} {L : List Nat} {f : Nat → va_E} {ha ca da : Nat} {vv : wr_V} (hq : wr_o G L f ha ca da vv) : Met l yX0_unsettledDisputes wsX0_unsettledDisputes ({ frames := 1, cells := 0, slots := 0, locals := 20 } : Room) (va_Pc [.ref ha] (wy_R G L f)) (vp_Si (fun z => z = nI (cb (fun k => rdp vv k && !rse vv k) 10))) 0 0 (fun _ => False) := by
  refine Met.ofW (cc := cX0_unsettledDisputes) (maxL := 1) (ret := (some .int)) (by decide) rfl ?_
  intro p e s m args below meth c s₁ B hml hv
  obtain ⟨rfl, hP, hK⟩ := hv
  have hx := B.exec
  have hb := B.bytes
  have hr := B.returns
  have hts := atoms_spec (ws := wsX0_unsettledDisputes) B.pre
  have hown : s.vm.findClass RX0 = some m.cls := findClass_of_methodNamed B.named
  have hlocks := B.notSynchronized
  have hinX0 : ∀ w ∈ wsX00, w ∈ wsX0_unsettledDisputes := by decide +kernel
  have hl := lv_entry ([.ref ha]) (n := 1) (Nat.le_of_ble_eq_true rfl)
  rw [lg_entry_eq]
  generalize (lg_sl ([.ref ha]) ++ List.replicate (1 - (lg_sl ([.ref ha])).length) Slot.unset).toArray = ls at hl ⊢
  have hl : lv_has ls 1 [(0, .ref ha)] := hl
  refine lv_aload_n hx hb dX0_unsettledDisputes_0 rfl (lv_at hl 0 rfl) ?_
  refine wy_get (ci := 1) (v := .int (mks (rdp vv))) (C := RX0) (T := TX0) (N := 11) hx hb hts hinX0 hown hK hP hq.1 rfl 8 (by decide) (hts (.fieldLink RX0 39 "Wheelpay$Ride" "disputed" "I") (by decide +kernel)) (fun _ h9 => h9) rfl dX0_unsettledDisputes_1 ?_
  refine lv_aload_n hx hb dX0_unsettledDisputes_4 rfl (lv_at hl 0 rfl) ?_
  refine wy_get (ci := 1) (v := .int (mks (rse vv))) (C := RX0) (T := TX0) (N := 11) hx hb hts hinX0 hown hK hP hq.1 rfl 9 (by decide) (hts (.fieldLink RX0 42 "Wheelpay$Ride" "settled" "I") (by decide +kernel)) (fun _ h9 => h9) rfl dX0_unsettledDisputes_5 ?_
  refine lv_iconst (v := (-1)) hx hb dX0_unsettledDisputes_8 (by decide) ?_
  refine lv_ixor hx hb dX0_unsettledDisputes_9 ?_
  refine lv_topi (fun x_1 ex_1 => ?_)
  refine lv_iand hx hb dX0_unsettledDisputes_10 ?_
  refine lv_topi (fun x_2 ex_2 => ?_)
  refine vp_callSi (W.runS (As := [.int x_2]) (rest := []) ⟨hx, hb, hml, hown, hts⟩ (m_J6_bitCount_0f7a4 l (x_2)) (va_cwS 1 hts gX0_unsettledDisputes_J6_bitCount_0f7a4 rfl rfl rfl (by decide +kernel) ⟨Nat.le_of_ble_eq_true rfl, Nat.le_of_ble_eq_true rfl⟩) (wy_pSN) rfl rfl hl.1 rfl (lv_room (Nat.le_of_ble_eq_true rfl)) dX0_unsettledDisputes_11 ⟨Nat.le_of_ble_eq_true rfl, Nat.le_of_ble_eq_true rfl⟩) (fun r_3 er_3 => ?_)
  exact wy_iR (by simp only [ex_1, ex_2, er_3]; rw [mks_andnot, bcf_mks]) hx hb hr hlocks dX0_unsettledDisputes_14
set_option maxHeartbeats 4000000 in
set_option maxRecDepth 100000 in
theorem m_X0_allCharges (l : Launch) {G : wy_G} {L : List Nat} {f : Nat → va_E} {ha ca da : Nat} {vv : wr_V} (hq : wr_o G L f ha ca da vv) : Met l yX0_allCharges wsX0_allCharges ({ frames := 0, cells := 0, slots := 0, locals := 0 } : Room) (va_Pc [.ref ha] (wy_R G L f)) (vp_Si (fun z => z = bx_sum (rch vv) 10)) 0 0 (fun _ => False) := by
  refine Met.ofW (cc := cX0_allCharges) (maxL := 3) (ret := (some .int)) (by decide) rfl ?_
  intro p e s m args below meth c s₁ B hml hv
  obtain ⟨rfl, hP, hK⟩ := hv
  have hx := B.exec
  have hb := B.bytes
  have hr := B.returns
  have hts := atoms_spec (ws := wsX0_allCharges) B.pre
  have hown : s.vm.findClass RX0 = some m.cls := findClass_of_methodNamed B.named
  have hlocks := B.notSynchronized
  have hinX0 : ∀ w ∈ wsX00, w ∈ wsX0_allCharges := by decide +kernel
  have hl := lv_entry ([.ref ha]) (n := 3) (Nat.le_of_ble_eq_true rfl)
  rw [lg_entry_eq]
  generalize (lg_sl ([.ref ha]) ++ List.replicate (3 - (lg_sl ([.ref ha])).length) Slot.unset).toArray = ls at hl ⊢
  have hl : lv_has ls 3 [(0, .ref ha)] := hl
  refine lv_iconst (v := 0) hx hb dX0_allCharges_0 (by decide) ?_
  refine lv_istore_n (lv' := [(1, .int 0), (0, .ref ha)]) hx hb dX0_allCharges_1 rfl hl (by decide) rfl (fun ls hl => ?_)
  refine lv_iconst (v := 0) hx hb dX0_allCharges_2 (by decide) ?_
  refine lv_istore_n (lv' := [(2, .int 0), (1, .int 0), (0, .ref ha)]) hx hb dX0_allCharges_3 rfl hl (by decide) rfl (fun ls hl => ?_)
  have KK : ∀ (d i : Nat), i + d = 10 → ∀ (xi_i : Int32), xi_i = nI (i) → ∀ (a_s : Int32), a_s = bx_sum (rch vv) i → ∀ ls : Array Slot, lv_has ls 3 [(2, .int xi_i), (1, .int a_s), (0, .ref ha)] → W p l e (headSpec wsX0_allCharges ({ frames := 0, cells := 0, slots := 0, locals := 0 } : Room)).room s m ([.ref ha] : List Value).toArray below meth c s.heap [] 0 0 (MQ below (vp_Si (fun z => z = bx_sum (rch vv) 10)) ([.ref ha] : List Value).toArray s 0 0 (fun _ => False)) (F0 m 4 ls []) := by
    intro d
    induction d with
    | zero =>
      intro i hd_i xi_i ei_i a_s ha_s ls hl
      refine lv_iload_n hx hb dX0_allCharges_4 rfl (lv_at hl 0 rfl) ?_
      refine lv_bipush (v := 10) hx hb dX0_allCharges_5 (by decide) ?_
      refine lv_icmp_ge (tgt := 25) hx hb dX0_allCharges_7 (by decide) (fun c_1 => ?_) (fun c_1 => ?_)
      · have nc_1 : 10 ≤ i := (wy_ge ei_i (rfl : (10 : Int32) = nI 10) (by omega) (by decide)).mp c_1
        obtain rfl : 10 = i := by omega
        refine lv_iload_n hx hb dX0_allCharges_25 rfl (lv_at hl 1 rfl) ?_
        exact wy_iR (by simp only [ha_s]) hx hb hr hlocks dX0_allCharges_26
      · have nc_1 : ¬ (10 ≤ i) := fun z => c_1 ((wy_ge ei_i (rfl : (10 : Int32) = nI 10) (by omega) (by decide)).mpr z)
        exact absurd nc_1 (by omega)
    | succ d ih_d =>
      intro i hd_i xi_i ei_i a_s ha_s ls hl
      refine lv_iload_n hx hb dX0_allCharges_4 rfl (lv_at hl 0 rfl) ?_
      refine lv_bipush (v := 10) hx hb dX0_allCharges_5 (by decide) ?_
      refine lv_icmp_ge (tgt := 25) hx hb dX0_allCharges_7 (by decide) (fun c_2 => ?_) (fun c_2 => ?_)
      · have nc_2 : 10 ≤ i := (wy_ge ei_i (rfl : (10 : Int32) = nI 10) (by omega) (by decide)).mp c_2
        exact absurd nc_2 (by omega)
      · have nc_2 : ¬ (10 ≤ i) := fun z => c_2 ((wy_ge ei_i (rfl : (10 : Int32) = nI 10) (by omega) (by decide)).mpr z)
        refine lv_iload_n hx hb dX0_allCharges_10 rfl (lv_at hl 1 rfl) ?_
        refine lv_aload_n hx hb dX0_allCharges_11 rfl (lv_at hl 2 rfl) ?_
        refine wy_get (ci := 1) (v := .ref ca) (C := RX0) (T := TX0) (N := 11) hx hb hts hinX0 hown hK hP hq.1 rfl 2 (by decide) (hts (.fieldLink RX0 18 "Wheelpay$Ride" "charges" "[I") (by decide +kernel)) (fun _ h9 => h9) rfl dX0_allCharges_12 ?_
        refine lv_iload_n hx hb dX0_allCharges_15 rfl (lv_at hl 0 rfl) ?_
        refine wy_iald hx hb hK hP hq.2.1 (i) ei_i (by omega) (by omega) dX0_allCharges_16 ?_
        refine lv_iadd hx hb dX0_allCharges_17 ?_
        refine lv_topi (fun x_3 ex_3 => ?_)
        refine lv_istore_n (lv' := [(1, .int x_3), (2, .int xi_i), (0, .ref ha)]) hx hb dX0_allCharges_18 rfl hl (by decide) rfl (fun ls hl => ?_)
        obtain ⟨x_4, ex_4⟩ : ∃ y : Int32, y = xi_i + 1 := ⟨_, rfl⟩
        have nx_4 : x_4 = nI (i + 1) := by rw [ex_4, ei_i, nI_1]
        refine lv_iinc (v := x_4) (lv' := [(2, .int x_4), (1, .int x_3), (0, .ref ha)]) hx hb dX0_allCharges_19 hl (k := 1) rfl (by rw [ex_4]; rfl) (by decide) rfl (fun ls hl => ?_)
        refine lv_goto (tgt := 4) hx hb dX0_allCharges_22 (by decide) ?_
        exact ih_d (i + 1) (by omega) _ nx_4 _ (by simp only [ha_s, ex_3, ex_4]; rfl) ls (lv_sub hl [0, 1, 2] rfl)
  exact KK (10) 0 (by omega) _ rfl _ rfl ls (lv_sub hl [0, 1, 2] rfl)
set_option maxHeartbeats 4000000 in
set_option maxRecDepth 100000 in
theorem m_X0_allRefunds (l : Launch) {G : wy_G} {L : List Nat} {f : Nat → va_E} {ha ca da : Nat} {vv : wr_V} (hq : wr_o G L f ha ca da vv) : Met l yX0_allRefunds wsX0_allRefunds ({ frames := 0, cells := 0, slots := 0, locals := 0 } : Room) (va_Pc [.ref ha] (wy_R G L f)) (vp_Si (fun z => z = bx_sum (rrf vv) 10)) 0 0 (fun _ => False) := by
  refine Met.ofW (cc := cX0_allRefunds) (maxL := 3) (ret := (some .int)) (by decide) rfl ?_
  intro p e s m args below meth c s₁ B hml hv
  obtain ⟨rfl, hP, hK⟩ := hv
  have hx := B.exec
  have hb := B.bytes
  have hr := B.returns
  have hts := atoms_spec (ws := wsX0_allRefunds) B.pre
  have hown : s.vm.findClass RX0 = some m.cls := findClass_of_methodNamed B.named
  have hlocks := B.notSynchronized
  have hinX0 : ∀ w ∈ wsX00, w ∈ wsX0_allRefunds := by decide +kernel
  have hl := lv_entry ([.ref ha]) (n := 3) (Nat.le_of_ble_eq_true rfl)
  rw [lg_entry_eq]
  generalize (lg_sl ([.ref ha]) ++ List.replicate (3 - (lg_sl ([.ref ha])).length) Slot.unset).toArray = ls at hl ⊢
  have hl : lv_has ls 3 [(0, .ref ha)] := hl
  refine lv_iconst (v := 0) hx hb dX0_allRefunds_0 (by decide) ?_
  refine lv_istore_n (lv' := [(1, .int 0), (0, .ref ha)]) hx hb dX0_allRefunds_1 rfl hl (by decide) rfl (fun ls hl => ?_)
  refine lv_iconst (v := 0) hx hb dX0_allRefunds_2 (by decide) ?_
  refine lv_istore_n (lv' := [(2, .int 0), (1, .int 0), (0, .ref ha)]) hx hb dX0_allRefunds_3 rfl hl (by decide) rfl (fun ls hl => ?_)
  have KK : ∀ (d i : Nat), i + d = 10 → ∀ (xi_i : Int32), xi_i = nI (i) → ∀ (a_s : Int32), a_s = bx_sum (rrf vv) i → ∀ ls : Array Slot, lv_has ls 3 [(2, .int xi_i), (1, .int a_s), (0, .ref ha)] → W p l e (headSpec wsX0_allRefunds ({ frames := 0, cells := 0, slots := 0, locals := 0 } : Room)).room s m ([.ref ha] : List Value).toArray below meth c s.heap [] 0 0 (MQ below (vp_Si (fun z => z = bx_sum (rrf vv) 10)) ([.ref ha] : List Value).toArray s 0 0 (fun _ => False)) (F0 m 4 ls []) := by
    intro d
    induction d with
    | zero =>
      intro i hd_i xi_i ei_i a_s ha_s ls hl
      refine lv_iload_n hx hb dX0_allRefunds_4 rfl (lv_at hl 0 rfl) ?_
      refine lv_bipush (v := 10) hx hb dX0_allRefunds_5 (by decide) ?_
      refine lv_icmp_ge (tgt := 25) hx hb dX0_allRefunds_7 (by decide) (fun c_1 => ?_) (fun c_1 => ?_)
      · have nc_1 : 10 ≤ i := (wy_ge ei_i (rfl : (10 : Int32) = nI 10) (by omega) (by decide)).mp c_1
        obtain rfl : 10 = i := by omega
        refine lv_iload_n hx hb dX0_allRefunds_25 rfl (lv_at hl 1 rfl) ?_
        exact wy_iR (by simp only [ha_s]) hx hb hr hlocks dX0_allRefunds_26
      · have nc_1 : ¬ (10 ≤ i) := fun z => c_1 ((wy_ge ei_i (rfl : (10 : Int32) = nI 10) (by omega) (by decide)).mpr z)
        exact absurd nc_1 (by omega)
    | succ d ih_d =>
      intro i hd_i xi_i ei_i a_s ha_s ls hl
      refine lv_iload_n hx hb dX0_allRefunds_4 rfl (lv_at hl 0 rfl) ?_
      refine lv_bipush (v := 10) hx hb dX0_allRefunds_5 (by decide) ?_
      refine lv_icmp_ge (tgt := 25) hx hb dX0_allRefunds_7 (by decide) (fun c_2 => ?_) (fun c_2 => ?_)
      · have nc_2 : 10 ≤ i := (wy_ge ei_i (rfl : (10 : Int32) = nI 10) (by omega) (by decide)).mp c_2
        exact absurd nc_2 (by omega)
      · have nc_2 : ¬ (10 ≤ i) := fun z => c_2 ((wy_ge ei_i (rfl : (10 : Int32) = nI 10) (by omega) (by decide)).mpr z)
        refine lv_iload_n hx hb dX0_allRefunds_10 rfl (lv_at hl 1 rfl) ?_
        refine lv_aload_n hx hb dX0_allRefunds_11 rfl (lv_at hl 2 rfl) ?_
        refine wy_get (ci := 1) (v := .ref da) (C := RX0) (T := TX0) (N := 11) hx hb hts hinX0 hown hK hP hq.1 rfl 3 (by decide) (hts (.fieldLink RX0 22 "Wheelpay$Ride" "refunds" "[I") (by decide +kernel)) (fun _ h9 => h9) rfl dX0_allRefunds_12 ?_
        refine lv_iload_n hx hb dX0_allRefunds_15 rfl (lv_at hl 0 rfl) ?_
        refine wy_iald hx hb hK hP hq.2.2.1 (i) ei_i (by omega) (by omega) dX0_allRefunds_16 ?_
        refine lv_iadd hx hb dX0_allRefunds_17 ?_
        refine lv_topi (fun x_3 ex_3 => ?_)
        refine lv_istore_n (lv' := [(1, .int x_3), (2, .int xi_i), (0, .ref ha)]) hx hb dX0_allRefunds_18 rfl hl (by decide) rfl (fun ls hl => ?_)
        obtain ⟨x_4, ex_4⟩ : ∃ y : Int32, y = xi_i + 1 := ⟨_, rfl⟩
        have nx_4 : x_4 = nI (i + 1) := by rw [ex_4, ei_i, nI_1]
        refine lv_iinc (v := x_4) (lv' := [(2, .int x_4), (1, .int x_3), (0, .ref ha)]) hx hb dX0_allRefunds_19 hl (k := 1) rfl (by rw [ex_4]; rfl) (by decide) rfl (fun ls hl => ?_)
        refine lv_goto (tgt := 4) hx hb dX0_allRefunds_22 (by decide) ?_
        exact ih_d (i + 1) (by omega) _ nx_4 _ (by simp only [ha_s, ex_3, ex_4]; rfl) ls (lv_sub hl [0, 1, 2] rfl)
  exact KK (10) 0 (by omega) _ rfl _ rfl ls (lv_sub hl [0, 1, 2] rfl)
set_option maxHeartbeats 4000000 in
set_option maxRecDepth 100000 in
theorem m_X0_forDriver (l : Launch) {G : wy_G} {L : List Nat} {f : Nat → va_E} {ha ca da : Nat} {vv : wr_V} (hq : wr_o G L f ha ca da vv) (p1 : Int32) (k : Nat) (hk : k < 10) (e1 : p1 = nI k) : Met l yX0_forDriver wsX0_forDriver ({ frames := 1, cells := 0, slots := 0, locals := 21 } : Room) (va_Pc [.ref ha, .int p1] (wy_R G L f)) (vp_Si (fun z => z = fdr vv k)) 0 0 (fun _ => False) := by
  refine Met.ofW (cc := cX0_forDriver) (maxL := 3) (ret := (some .int)) (by decide) rfl ?_
  intro p e s m args below meth c s₁ B hml hv
  obtain ⟨rfl, hP, hK⟩ := hv
  have hx := B.exec
  have hb := B.bytes
  have hr := B.returns
  have hts := atoms_spec (ws := wsX0_forDriver) B.pre
  have hown : s.vm.findClass RX0 = some m.cls := findClass_of_methodNamed B.named
  have hlocks := B.notSynchronized
  have hinX0 : ∀ w ∈ wsX00, w ∈ wsX0_forDriver := by decide +kernel
  have hl := lv_entry ([.ref ha, .int p1]) (n := 3) (Nat.le_of_ble_eq_true rfl)
  rw [lg_entry_eq]
  generalize (lg_sl ([.ref ha, .int p1]) ++ List.replicate (3 - (lg_sl ([.ref ha, .int p1])).length) Slot.unset).toArray = ls at hl ⊢
  have hl : lv_has ls 3 [(0, .ref ha), (1, .int p1)] := hl
  refine lv_aload_n hx hb dX0_forDriver_0 rfl (lv_at hl 0 rfl) ?_
  refine wy_get (ci := 1) (v := .ref ca) (C := RX0) (T := TX0) (N := 11) hx hb hts hinX0 hown hK hP hq.1 rfl 2 (by decide) (hts (.fieldLink RX0 18 "Wheelpay$Ride" "charges" "[I") (by decide +kernel)) (fun _ h9 => h9) rfl dX0_forDriver_1 ?_
  refine lv_iload_n hx hb dX0_forDriver_4 rfl (lv_at hl 1 rfl) ?_
  refine wy_iald hx hb hK hP hq.2.1 (k) e1 (by omega) (by omega) dX0_forDriver_5 ?_
  refine lv_istore_n (lv' := [(2, .int (rch vv (k))), (0, .ref ha), (1, .int p1)]) hx hb dX0_forDriver_6 rfl hl (by decide) rfl (fun ls hl => ?_)
  refine lv_aload_n hx hb dX0_forDriver_7 rfl (lv_at hl 1 rfl) ?_
  refine wy_get (ci := 1) (v := .int (mks (rfa vv))) (C := RX0) (T := TX0) (N := 11) hx hb hts hinX0 hown hK hP hq.1 rfl 10 (by decide) (hts (.fieldLink RX0 54 "Wheelpay$Ride" "faulted" "I") (by decide +kernel)) (fun _ h9 => h9) rfl dX0_forDriver_8 ?_
  refine lv_iload_n hx hb dX0_forDriver_11 rfl (lv_at hl 2 rfl) ?_
  refine vp_callSi (W.runS (As := [.int (mks (rfa vv)), .int p1]) (rest := []) ⟨hx, hb, hml, hown, hts⟩ (m_X0_holds l (rfa vv) (p1) (k) hk e1) (va_cwS 2 hts gX0_forDriver_X0_holds rfl rfl rfl (by decide +kernel) ⟨Nat.le_of_ble_eq_true rfl, Nat.le_of_ble_eq_true rfl⟩) (wy_pSN) rfl rfl hl.1 rfl (lv_room (Nat.le_of_ble_eq_true rfl)) dX0_forDriver_12 ⟨Nat.le_of_ble_eq_true rfl, Nat.le_of_ble_eq_true rfl⟩) (fun r_1 er_1 => ?_)
  refine lv_if_eq (tgt := 27) hx hb dX0_forDriver_15 (by decide) (fun c_2 => ?_) (fun c_2 => ?_)
  · have bc_2 : ((rfa vv) (k)) = false := bI_0 (er_1.symm.trans c_2)
    refine lv_iload_n hx hb dX0_forDriver_27 rfl (lv_at hl 0 rfl) ?_
    refine lv_iload_n hx hb dX0_forDriver_28 rfl (lv_at hl 0 rfl) ?_
    refine lv_iconst (v := 5) hx hb dX0_forDriver_29 (by decide) ?_
    refine lv_idiv hx hb dX0_forDriver_30 (by decide) ?_
    refine lv_topi (fun x_3 ex_3 => ?_)
    refine lv_isub hx hb dX0_forDriver_31 ?_
    refine lv_topi (fun x_4 ex_4 => ?_)
    exact wy_iR (by simp only [er_1, ex_3, ex_4, bc_2, fdr, Bool.false_eq_true, if_true, if_false]) hx hb hr hlocks dX0_forDriver_32
  · have bc_2 : ((rfa vv) (k)) = true := bI_1 (fun z => c_2 (er_1.trans z))
    refine lv_iload_n hx hb dX0_forDriver_18 rfl (lv_at hl 0 rfl) ?_
    refine lv_aload_n hx hb dX0_forDriver_19 rfl (lv_at hl 1 rfl) ?_
    refine wy_get (ci := 1) (v := .ref da) (C := RX0) (T := TX0) (N := 11) hx hb hts hinX0 hown hK hP hq.1 rfl 3 (by decide) (hts (.fieldLink RX0 22 "Wheelpay$Ride" "refunds" "[I") (by decide +kernel)) (fun _ h9 => h9) rfl dX0_forDriver_20 ?_
    refine lv_iload_n hx hb dX0_forDriver_23 rfl (lv_at hl 2 rfl) ?_
    refine wy_iald hx hb hK hP hq.2.2.1 (k) e1 (by omega) (by omega) dX0_forDriver_24 ?_
    refine lv_isub hx hb dX0_forDriver_25 ?_
    refine lv_topi (fun x_5 ex_5 => ?_)
    refine lv_istore_n (lv' := [(2, .int x_5), (0, .ref ha), (1, .int p1)]) hx hb dX0_forDriver_26 rfl hl (by decide) rfl (fun ls hl => ?_)
    refine lv_iload_n hx hb dX0_forDriver_27 rfl (lv_at hl 0 rfl) ?_
    refine lv_iload_n hx hb dX0_forDriver_28 rfl (lv_at hl 0 rfl) ?_
    refine lv_iconst (v := 5) hx hb dX0_forDriver_29 (by decide) ?_
    refine lv_idiv hx hb dX0_forDriver_30 (by decide) ?_
    refine lv_topi (fun x_6 ex_6 => ?_)
    refine lv_isub hx hb dX0_forDriver_31 ?_
    refine lv_topi (fun x_7 ex_7 => ?_)
    exact wy_iR (by simp only [er_1, ex_5, ex_6, ex_7, bc_2, fdr, Bool.false_eq_true, if_true, if_false]) hx hb hr hlocks dX0_forDriver_32
set_option maxHeartbeats 4000000 in
set_option maxRecDepth 100000 in
theorem m_X0_allForDriver (l : Launch) {G : wy_G} {L : List Nat} {f : Nat → va_E} {ha ca da : Nat} {vv : wr_V} (hq : wr_o G L f ha ca da vv) : Met l yX0_allForDriver wsX0_allForDriver ({ frames := 2, cells := 0, slots := 0, locals := 43 } : Room) (va_Pc [.ref ha] (wy_R G L f)) (vp_Si (fun z => z = bx_sum (fdr vv) 10)) 0 0 (fun _ => False) := by
  refine Met.ofW (cc := cX0_allForDriver) (maxL := 3) (ret := (some .int)) (by decide) rfl ?_
  intro p e s m args below meth c s₁ B hml hv
  obtain ⟨rfl, hP, hK⟩ := hv
  have hx := B.exec
  have hb := B.bytes
  have hr := B.returns
  have hts := atoms_spec (ws := wsX0_allForDriver) B.pre
  have hown : s.vm.findClass RX0 = some m.cls := findClass_of_methodNamed B.named
  have hlocks := B.notSynchronized
  have hl := lv_entry ([.ref ha]) (n := 3) (Nat.le_of_ble_eq_true rfl)
  rw [lg_entry_eq]
  generalize (lg_sl ([.ref ha]) ++ List.replicate (3 - (lg_sl ([.ref ha])).length) Slot.unset).toArray = ls at hl ⊢
  have hl : lv_has ls 3 [(0, .ref ha)] := hl
  refine lv_iconst (v := 0) hx hb dX0_allForDriver_0 (by decide) ?_
  refine lv_istore_n (lv' := [(1, .int 0), (0, .ref ha)]) hx hb dX0_allForDriver_1 rfl hl (by decide) rfl (fun ls hl => ?_)
  refine lv_iconst (v := 0) hx hb dX0_allForDriver_2 (by decide) ?_
  refine lv_istore_n (lv' := [(2, .int 0), (1, .int 0), (0, .ref ha)]) hx hb dX0_allForDriver_3 rfl hl (by decide) rfl (fun ls hl => ?_)
  have KK : ∀ (d i : Nat), i + d = 10 → ∀ (xi_i : Int32), xi_i = nI (i) → ∀ (a_s : Int32), a_s = bx_sum (fdr vv) i → ∀ ls : Array Slot, lv_has ls 3 [(2, .int xi_i), (1, .int a_s), (0, .ref ha)] → W p l e (headSpec wsX0_allForDriver ({ frames := 2, cells := 0, slots := 0, locals := 43 } : Room)).room s m ([.ref ha] : List Value).toArray below meth c s.heap [] 0 0 (MQ below (vp_Si (fun z => z = bx_sum (fdr vv) 10)) ([.ref ha] : List Value).toArray s 0 0 (fun _ => False)) (F0 m 4 ls []) := by
    intro d
    induction d with
    | zero =>
      intro i hd_i xi_i ei_i a_s ha_s ls hl
      refine lv_iload_n hx hb dX0_allForDriver_4 rfl (lv_at hl 0 rfl) ?_
      refine lv_bipush (v := 10) hx hb dX0_allForDriver_5 (by decide) ?_
      refine lv_icmp_ge (tgt := 24) hx hb dX0_allForDriver_7 (by decide) (fun c_1 => ?_) (fun c_1 => ?_)
      · have nc_1 : 10 ≤ i := (wy_ge ei_i (rfl : (10 : Int32) = nI 10) (by omega) (by decide)).mp c_1
        obtain rfl : 10 = i := by omega
        refine lv_iload_n hx hb dX0_allForDriver_24 rfl (lv_at hl 1 rfl) ?_
        exact wy_iR (by simp only [ha_s]) hx hb hr hlocks dX0_allForDriver_25
      · have nc_1 : ¬ (10 ≤ i) := fun z => c_1 ((wy_ge ei_i (rfl : (10 : Int32) = nI 10) (by omega) (by decide)).mpr z)
        exact absurd nc_1 (by omega)
    | succ d ih_d =>
      intro i hd_i xi_i ei_i a_s ha_s ls hl
      refine lv_iload_n hx hb dX0_allForDriver_4 rfl (lv_at hl 0 rfl) ?_
      refine lv_bipush (v := 10) hx hb dX0_allForDriver_5 (by decide) ?_
      refine lv_icmp_ge (tgt := 24) hx hb dX0_allForDriver_7 (by decide) (fun c_2 => ?_) (fun c_2 => ?_)
      · have nc_2 : 10 ≤ i := (wy_ge ei_i (rfl : (10 : Int32) = nI 10) (by omega) (by decide)).mp c_2
        exact absurd nc_2 (by omega)
      · have nc_2 : ¬ (10 ≤ i) := fun z => c_2 ((wy_ge ei_i (rfl : (10 : Int32) = nI 10) (by omega) (by decide)).mpr z)
        refine lv_iload_n hx hb dX0_allForDriver_10 rfl (lv_at hl 1 rfl) ?_
        refine lv_aload_n hx hb dX0_allForDriver_11 rfl (lv_at hl 2 rfl) ?_
        refine lv_iload_n hx hb dX0_allForDriver_12 rfl (lv_at hl 0 rfl) ?_
        refine vp_callSi (W.runV (As := [.int xi_i]) (rest := [.int a_s]) ⟨hx, hb, hml, hown, hts⟩ (m_X0_forDriver l hq (xi_i) (i) (by omega) ei_i) (cwV 1 hts gX0_allForDriver_X0_forDriver rfl rfl rfl (by decide +kernel) ⟨Nat.le_of_ble_eq_true rfl, Nat.le_of_ble_eq_true rfl⟩) (wy_pVR hK hP hq.1 rfl) rfl rfl hl.1 rfl (lv_room (Nat.le_of_ble_eq_true rfl)) dX0_allForDriver_13 ⟨Nat.le_of_ble_eq_true rfl, Nat.le_of_ble_eq_true rfl⟩) (fun r_3 er_3 => ?_)
        refine lv_iadd hx hb dX0_allForDriver_16 ?_
        refine lv_topi (fun x_4 ex_4 => ?_)
        refine lv_istore_n (lv' := [(1, .int x_4), (2, .int xi_i), (0, .ref ha)]) hx hb dX0_allForDriver_17 rfl hl (by decide) rfl (fun ls hl => ?_)
        obtain ⟨x_5, ex_5⟩ : ∃ y : Int32, y = xi_i + 1 := ⟨_, rfl⟩
        have nx_5 : x_5 = nI (i + 1) := by rw [ex_5, ei_i, nI_1]
        refine lv_iinc (v := x_5) (lv' := [(2, .int x_5), (1, .int x_4), (0, .ref ha)]) hx hb dX0_allForDriver_18 hl (k := 1) rfl (by rw [ex_5]; rfl) (by decide) rfl (fun ls hl => ?_)
        refine lv_goto (tgt := 4) hx hb dX0_allForDriver_21 (by decide) ?_
        exact ih_d (i + 1) (by omega) _ nx_5 _ (by simp only [ha_s, er_3, ex_4, ex_5]; rfl) ls (lv_sub hl [0, 1, 2] rfl)
  exact KK (10) 0 (by omega) _ rfl _ rfl ls (lv_sub hl [0, 1, 2] rfl)
set_option maxHeartbeats 4000000 in
set_option maxRecDepth 100000 in
theorem m_X0_countsAsVoid (l : Launch) {G : wy_G} {L : List Nat} {f : Nat → va_E} {ha ca da : Nat} {vv : wr_V} (hq : wr_o G L f ha ca da vv) : Met l yX0_countsAsVoid wsX0_countsAsVoid ({ frames := 1, cells := 0, slots := 0, locals := 21 } : Room) (va_Pc [.ref ha] (wy_R G L f)) (vp_Si (fun z => z = bI (voidR vv))) 0 0 (fun _ => False) := by
  refine Met.ofW (cc := cX0_countsAsVoid) (maxL := 3) (ret := (some .boolean)) (by decide) rfl ?_
  intro p e s m args below meth c s₁ B hml hv
  obtain ⟨rfl, hP, hK⟩ := hv
  have hx := B.exec
  have hb := B.bytes
  have hr := B.returns
  have hts := atoms_spec (ws := wsX0_countsAsVoid) B.pre
  have hown : s.vm.findClass RX0 = some m.cls := findClass_of_methodNamed B.named
  have hlocks := B.notSynchronized
  have hinX0 : ∀ w ∈ wsX00, w ∈ wsX0_countsAsVoid := by decide +kernel
  have hl := lv_entry ([.ref ha]) (n := 3) (Nat.le_of_ble_eq_true rfl)
  rw [lg_entry_eq]
  generalize (lg_sl ([.ref ha]) ++ List.replicate (3 - (lg_sl ([.ref ha])).length) Slot.unset).toArray = ls at hl ⊢
  have hl : lv_has ls 3 [(0, .ref ha)] := hl
  refine lv_iconst (v := 0) hx hb dX0_countsAsVoid_0 (by decide) ?_
  refine lv_istore_n (lv' := [(1, .int 0), (0, .ref ha)]) hx hb dX0_countsAsVoid_1 rfl hl (by decide) rfl (fun ls hl => ?_)
  refine lv_iconst (v := 0) hx hb dX0_countsAsVoid_2 (by decide) ?_
  refine lv_istore_n (lv' := [(2, .int 0), (1, .int 0), (0, .ref ha)]) hx hb dX0_countsAsVoid_3 rfl hl (by decide) rfl (fun ls hl => ?_)
  have KK : ∀ (d i : Nat), i + d = 10 → ∀ (xi_i : Int32), xi_i = nI (i) → ∀ (a_s : Int32), a_s = bI (anyc (rch vv) i) → allv vv i = true → ∀ ls : Array Slot, lv_has ls 3 [(2, .int xi_i), (1, .int a_s), (0, .ref ha)] → W p l e (headSpec wsX0_countsAsVoid ({ frames := 1, cells := 0, slots := 0, locals := 21 } : Room)).room s m ([.ref ha] : List Value).toArray below meth c s.heap [] 0 0 (MQ below (vp_Si (fun z => z = bI (voidR vv))) ([.ref ha] : List Value).toArray s 0 0 (fun _ => False)) (F0 m 4 ls []) := by
    intro d
    induction d with
    | zero =>
      intro i hd_i xi_i ei_i a_s ha_s hall ls hl
      refine lv_iload_n hx hb dX0_countsAsVoid_4 rfl (lv_at hl 0 rfl) ?_
      refine lv_bipush (v := 10) hx hb dX0_countsAsVoid_5 (by decide) ?_
      refine lv_icmp_ge (tgt := 55) hx hb dX0_countsAsVoid_7 (by decide) (fun c_1 => ?_) (fun c_1 => ?_)
      · have nc_1 : 10 ≤ i := (wy_ge ei_i (rfl : (10 : Int32) = nI 10) (by omega) (by decide)).mp c_1
        obtain rfl : 10 = i := by omega
        refine lv_aload_n hx hb dX0_countsAsVoid_55 rfl (lv_at hl 2 rfl) ?_
        refine wy_get (ci := 1) (v := .int (bI (rfi vv))) (C := RX0) (T := TX0) (N := 11) hx hb hts hinX0 hown hK hP hq.1 rfl 5 (by decide) (hts (.fieldLink RX0 25 "Wheelpay$Ride" "finished" "Z") (by decide +kernel)) (fun _ h9 => h9) rfl dX0_countsAsVoid_56 ?_
        refine lv_if_eq (tgt := 70) hx hb dX0_countsAsVoid_59 (by decide) (fun c_2 => ?_) (fun c_2 => ?_)
        · have bc_2 : (rfi vv) = false := bI_0 (rfl.symm.trans c_2)
          refine lv_iconst (v := 0) hx hb dX0_countsAsVoid_70 (by decide) ?_
          exact wy_zR (by simp [voidR, bI, hall, bc_2]) hx hb hr hlocks dX0_countsAsVoid_71
        · have bc_2 : (rfi vv) = true := bI_1 (fun z => c_2 (rfl.trans z))
          refine lv_iload_n hx hb dX0_countsAsVoid_62 rfl (lv_at hl 1 rfl) ?_
          refine lv_if_eq (tgt := 70) hx hb dX0_countsAsVoid_63 (by decide) (fun c_3 => ?_) (fun c_3 => ?_)
          · have bc_3 : (anyc (rch vv) 10) = false := bI_0 (ha_s.symm.trans c_3)
            refine lv_iconst (v := 0) hx hb dX0_countsAsVoid_70 (by decide) ?_
            exact wy_zR (by simp [voidR, bI, hall, bc_2, bc_3]) hx hb hr hlocks dX0_countsAsVoid_71
          · have bc_3 : (anyc (rch vv) 10) = true := bI_1 (fun z => c_3 (ha_s.trans z))
            refine lv_iconst (v := 1) hx hb dX0_countsAsVoid_66 (by decide) ?_
            refine lv_goto (tgt := 71) hx hb dX0_countsAsVoid_67 (by decide) ?_
            exact wy_zR (by simp [voidR, bI, hall, bc_2, bc_3]) hx hb hr hlocks dX0_countsAsVoid_71
      · have nc_1 : ¬ (10 ≤ i) := fun z => c_1 ((wy_ge ei_i (rfl : (10 : Int32) = nI 10) (by omega) (by decide)).mpr z)
        exact absurd nc_1 (by omega)
    | succ d ih_d =>
      intro i hd_i xi_i ei_i a_s ha_s hall ls hl
      refine lv_iload_n hx hb dX0_countsAsVoid_4 rfl (lv_at hl 0 rfl) ?_
      refine lv_bipush (v := 10) hx hb dX0_countsAsVoid_5 (by decide) ?_
      refine lv_icmp_ge (tgt := 55) hx hb dX0_countsAsVoid_7 (by decide) (fun c_4 => ?_) (fun c_4 => ?_)
      · have nc_4 : 10 ≤ i := (wy_ge ei_i (rfl : (10 : Int32) = nI 10) (by omega) (by decide)).mp c_4
        exact absurd nc_4 (by omega)
      · have nc_4 : ¬ (10 ≤ i) := fun z => c_4 ((wy_ge ei_i (rfl : (10 : Int32) = nI 10) (by omega) (by decide)).mpr z)
        refine lv_aload_n hx hb dX0_countsAsVoid_10 rfl (lv_at hl 2 rfl) ?_
        refine wy_get (ci := 1) (v := .ref ca) (C := RX0) (T := TX0) (N := 11) hx hb hts hinX0 hown hK hP hq.1 rfl 2 (by decide) (hts (.fieldLink RX0 18 "Wheelpay$Ride" "charges" "[I") (by decide +kernel)) (fun _ h9 => h9) rfl dX0_countsAsVoid_11 ?_
        refine lv_iload_n hx hb dX0_countsAsVoid_14 rfl (lv_at hl 0 rfl) ?_
        refine wy_iald hx hb hK hP hq.2.1 (i) ei_i (by omega) (by omega) dX0_countsAsVoid_15 ?_
        refine lv_if_le (tgt := 49) hx hb dX0_countsAsVoid_16 (by decide) (fun c_5 => ?_) (fun c_5 => ?_)
        · obtain ⟨x_6, ex_6⟩ : ∃ y : Int32, y = xi_i + 1 := ⟨_, rfl⟩
          have nx_6 : x_6 = nI (i + 1) := by rw [ex_6, ei_i, nI_1]
          refine lv_iinc (v := x_6) (lv' := [(2, .int x_6), (1, .int a_s), (0, .ref ha)]) hx hb dX0_countsAsVoid_49 hl (k := 0) rfl (by rw [ex_6]; rfl) (by decide) rfl (fun ls hl => ?_)
          refine lv_goto (tgt := 4) hx hb dX0_countsAsVoid_52 (by decide) ?_
          exact ih_d (i + 1) (by omega) _ nx_6 _ (by rw [ha_s]; simp [anyc, Int32.not_lt.mpr c_5]) (by simp [allv, hall, Int32.not_lt.mpr c_5]) ls (lv_sub hl [0, 1, 2] rfl)
        · refine lv_iconst (v := 1) hx hb dX0_countsAsVoid_19 (by decide) ?_
          refine lv_istore_n (lv' := [(1, .int 1), (2, .int xi_i), (0, .ref ha)]) hx hb dX0_countsAsVoid_20 rfl hl (by decide) rfl (fun ls hl => ?_)
          refine lv_aload_n hx hb dX0_countsAsVoid_21 rfl (lv_at hl 2 rfl) ?_
          refine wy_get (ci := 1) (v := .int (mks (rfa vv))) (C := RX0) (T := TX0) (N := 11) hx hb hts hinX0 hown hK hP hq.1 rfl 10 (by decide) (hts (.fieldLink RX0 54 "Wheelpay$Ride" "faulted" "I") (by decide +kernel)) (fun _ h9 => h9) rfl dX0_countsAsVoid_22 ?_
          refine lv_iload_n hx hb dX0_countsAsVoid_25 rfl (lv_at hl 1 rfl) ?_
          refine vp_callSi (W.runS (As := [.int (mks (rfa vv)), .int xi_i]) (rest := []) ⟨hx, hb, hml, hown, hts⟩ (m_X0_holds l (rfa vv) (xi_i) (i) (by omega) ei_i) (va_cwS 2 hts gX0_countsAsVoid_X0_holds rfl rfl rfl (by decide +kernel) ⟨Nat.le_of_ble_eq_true rfl, Nat.le_of_ble_eq_true rfl⟩) (wy_pSN) rfl rfl hl.1 rfl (lv_room (Nat.le_of_ble_eq_true rfl)) dX0_countsAsVoid_26 ⟨Nat.le_of_ble_eq_true rfl, Nat.le_of_ble_eq_true rfl⟩) (fun r_7 er_7 => ?_)
          refine lv_if_eq (tgt := 47) hx hb dX0_countsAsVoid_29 (by decide) (fun c_8 => ?_) (fun c_8 => ?_)
          · have bc_8 : ((rfa vv) (i)) = false := bI_0 (er_7.symm.trans c_8)
            refine lv_iconst (v := 0) hx hb dX0_countsAsVoid_47 (by decide) ?_
            exact wy_zR (by
              have hlt : 0 < rch vv i := Int32.not_le.mp c_5
              have h9 : allv vv (i + 1) = false := by simp [allv, hall, hlt, bc_8]
              have h8 := allv_false vv h9 10 (by omega)
              simp [voidR, h8, bI]) hx hb hr hlocks dX0_countsAsVoid_48
          · have bc_8 : ((rfa vv) (i)) = true := bI_1 (fun z => c_8 (er_7.trans z))
            refine lv_aload_n hx hb dX0_countsAsVoid_32 rfl (lv_at hl 2 rfl) ?_
            refine wy_get (ci := 1) (v := .ref da) (C := RX0) (T := TX0) (N := 11) hx hb hts hinX0 hown hK hP hq.1 rfl 3 (by decide) (hts (.fieldLink RX0 22 "Wheelpay$Ride" "refunds" "[I") (by decide +kernel)) (fun _ h9 => h9) rfl dX0_countsAsVoid_33 ?_
            refine lv_iload_n hx hb dX0_countsAsVoid_36 rfl (lv_at hl 1 rfl) ?_
            refine wy_iald hx hb hK hP hq.2.2.1 (i) ei_i (by omega) (by omega) dX0_countsAsVoid_37 ?_
            refine lv_aload_n hx hb dX0_countsAsVoid_38 rfl (lv_at hl 2 rfl) ?_
            refine wy_get (ci := 1) (v := .ref ca) (C := RX0) (T := TX0) (N := 11) hx hb hts hinX0 hown hK hP hq.1 rfl 2 (by decide) (hts (.fieldLink RX0 18 "Wheelpay$Ride" "charges" "[I") (by decide +kernel)) (fun _ h9 => h9) rfl dX0_countsAsVoid_39 ?_
            refine lv_iload_n hx hb dX0_countsAsVoid_42 rfl (lv_at hl 1 rfl) ?_
            refine wy_iald hx hb hK hP hq.2.1 (i) ei_i (by omega) (by omega) dX0_countsAsVoid_43 ?_
            refine lv_icmp_eq (tgt := 49) hx hb dX0_countsAsVoid_44 (by decide) (fun c_9 => ?_) (fun c_9 => ?_)
            · obtain ⟨x_10, ex_10⟩ : ∃ y : Int32, y = xi_i + 1 := ⟨_, rfl⟩
              have nx_10 : x_10 = nI (i + 1) := by rw [ex_10, ei_i, nI_1]
              refine lv_iinc (v := x_10) (lv' := [(2, .int x_10), (1, .int 1), (0, .ref ha)]) hx hb dX0_countsAsVoid_49 hl (k := 1) rfl (by rw [ex_10]; rfl) (by decide) rfl (fun ls hl => ?_)
              refine lv_goto (tgt := 4) hx hb dX0_countsAsVoid_52 (by decide) ?_
              exact ih_d (i + 1) (by omega) _ nx_10 _ (by simp [anyc, bI, Int32.not_le.mp c_5]) (by simp [allv, hall, c_9, bc_8]) ls (lv_sub hl [0, 1, 2] rfl)
            · refine lv_iconst (v := 0) hx hb dX0_countsAsVoid_47 (by decide) ?_
              exact wy_zR (by
                have hlt : 0 < rch vv i := Int32.not_le.mp c_5
                have h9 : allv vv (i + 1) = false := by simp [allv, hall, hlt, bc_8, c_9]
                have h8 := allv_false vv h9 10 (by omega)
                simp [voidR, h8, bI]) hx hb hr hlocks dX0_countsAsVoid_48
  exact KK (10) 0 (by omega) _ rfl _ rfl rfl ls (lv_sub hl [0, 1, 2] rfl)
