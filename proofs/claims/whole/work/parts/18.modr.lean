set_option maxHeartbeats 4000000 in
set_option maxRecDepth 100000 in
theorem m_X2_thrown (l : Launch) {G : wy_G} {L : List Nat} {f : Nat → va_E} {om : Nat} {ma : Nat → Nat} {n : Nat} {km mn : Int32} {wk : Nat} {th : Int32} {po : Nat → Int32} {rr : Nat → wr_V} {g0 g1 g2 g3 g4 g5 g6 g7 g8 g9 : Nat → Int32} {t : Nat} (hq : wm_S G L f om ma n km mn wk th g0 g1 g2 g3 g4 g5 g6 g7 g8 g9) (hm : wm_r po rr g0 g1 g2 g3 g4 g5 g6 g7 g8 g9) (hi : ∀ k, k < 40 → wi t (rr k)) (ht : t ≤ 512) : Met l yX2_thrown wsX2_thrown ({ frames := 0, cells := 0, slots := 0, locals := 0 } : Room) (va_Pc [.ref om] (wy_R G L f)) (vp_Si (fun z => z = th)) 0 0 (fun _ => False) := by
  refine Met.ofW (cc := cX2_thrown) (maxL := 1) (ret := (some .int)) (by decide) rfl ?_
  intro p e s m args below meth c s₁ B hml hv
  obtain ⟨rfl, hP, hK⟩ := hv
  have hx := B.exec
  have hb := B.bytes
  have hr := B.returns
  have hts := atoms_spec (ws := wsX2_thrown) B.pre
  have hown : s.vm.findClass RX2 = some m.cls := findClass_of_methodNamed B.named
  have hlocks := B.notSynchronized
  have hinX2 : ∀ w ∈ wsX20, w ∈ wsX2_thrown := by decide +kernel
  have hn : n ≤ 40 := hq.2.2.2.2.2.2.2.2.2.2.2.2.2.1
  have hwk : wk ≤ 20 := hq.2.2.2.2.2.2.2.2.2.2.2.2.2.2
  have hsN : ∀ v r, stN v r < 2 ^ 31 := fun v r => by unfold stN; split <;> (try split) <;> (try split) <;> decide
  have hdN : ∀ v r, dpN v r < 2 ^ 31 := fun v r => by unfold dpN; split <;> (try split) <;> (try split) <;> decide
  have hl := lv_entry ([.ref om]) (n := 1) (Nat.le_of_ble_eq_true rfl)
  rw [lg_entry_eq]
  generalize (lg_sl ([.ref om]) ++ List.replicate (1 - (lg_sl ([.ref om])).length) Slot.unset).toArray = ls at hl ⊢
  have hl : lv_has ls 1 [(0, .ref om)] := hl
  refine lv_aload_n hx hb dX2_thrown_0 rfl (lv_at hl 0 rfl) ?_
  refine wy_get (ci := 3) (v := .int th) (C := RX2) (T := TX2) (N := 15) hx hb hts hinX2 hown hK hP hq.1 rfl 14 (by decide) (hts (.fieldLink RX2 48 "WheelpayModel" "thrown" "I") (by decide +kernel)) (fun _ h9 => h9) rfl dX2_thrown_1 ?_
  exact wy_iR rfl hx hb hr hlocks dX2_thrown_4
set_option maxHeartbeats 4000000 in
set_option maxRecDepth 100000 in
theorem m_X2_isIn (l : Launch) (p0 p1 p2 : Int32) : Met l yX2_isIn wsX2_isIn ({ frames := 0, cells := 0, slots := 0, locals := 0 } : Room) (va_Pc [.int p0, .int p1, .int p2] (fun _ => True)) (vp_Si (fun z => z = bI (rngB p0 p1 p2))) 0 0 (fun _ => False) := by
  refine Met.ofW (cc := cX2_isIn) (maxL := 3) (ret := (some .boolean)) (by decide) rfl ?_
  intro p e s m args below meth c s₁ B hml hv
  obtain ⟨rfl, -⟩ := hv
  have hx := B.exec
  have hb := B.bytes
  have hr := B.returns
  have hts := atoms_spec (ws := wsX2_isIn) B.pre
  have hown : s.vm.findClass RX2 = some m.cls := findClass_of_methodNamed B.named
  have hlocks := B.notSynchronized
  have hl := lv_entry ([.int p0, .int p1, .int p2]) (n := 3) (Nat.le_of_ble_eq_true rfl)
  rw [lg_entry_eq]
  generalize (lg_sl ([.int p0, .int p1, .int p2]) ++ List.replicate (3 - (lg_sl ([.int p0, .int p1, .int p2])).length) Slot.unset).toArray = ls at hl ⊢
  have hl : lv_has ls 3 [(0, .int p0), (1, .int p1), (2, .int p2)] := hl
  refine lv_iload_n hx hb dX2_isIn_0 rfl (lv_at hl 0 rfl) ?_
  refine lv_iload_n hx hb dX2_isIn_1 rfl (lv_at hl 1 rfl) ?_
  refine lv_icmp_lt (tgt := 14) hx hb dX2_isIn_2 (by decide) (fun c_1 => ?_) (fun c_1 => ?_)
  · refine lv_iconst (v := 0) hx hb dX2_isIn_14 (by decide) ?_
    exact wy_zR (by unfold rngB; simp [bI, Int32.not_le.mpr c_1]) hx hb hr hlocks dX2_isIn_15
  · refine lv_iload_n hx hb dX2_isIn_5 rfl (lv_at hl 0 rfl) ?_
    refine lv_iload_n hx hb dX2_isIn_6 rfl (lv_at hl 2 rfl) ?_
    refine lv_icmp_gt (tgt := 14) hx hb dX2_isIn_7 (by decide) (fun c_2 => ?_) (fun c_2 => ?_)
    · refine lv_iconst (v := 0) hx hb dX2_isIn_14 (by decide) ?_
      exact wy_zR (by unfold rngB; simp [bI, Int32.not_lt.mp c_1, Int32.not_le.mpr c_2]) hx hb hr hlocks dX2_isIn_15
    · refine lv_iconst (v := 1) hx hb dX2_isIn_10 (by decide) ?_
      refine lv_goto (tgt := 15) hx hb dX2_isIn_11 (by decide) ?_
      exact wy_zR (by unfold rngB; simp [bI, Int32.not_lt.mp c_1, Int32.not_lt.mp c_2]) hx hb hr hlocks dX2_isIn_15
set_option maxHeartbeats 4000000 in
set_option maxRecDepth 100000 in
theorem m_X2_isRide (l : Launch) {G : wy_G} {L : List Nat} {f : Nat → va_E} {om : Nat} {ma : Nat → Nat} {n : Nat} {km mn : Int32} {wk : Nat} {th : Int32} {po : Nat → Int32} {rr : Nat → wr_V} {g0 g1 g2 g3 g4 g5 g6 g7 g8 g9 : Nat → Int32} {t : Nat} (hq : wm_S G L f om ma n km mn wk th g0 g1 g2 g3 g4 g5 g6 g7 g8 g9) (hm : wm_r po rr g0 g1 g2 g3 g4 g5 g6 g7 g8 g9) (hi : ∀ k, k < 40 → wi t (rr k)) (ht : t ≤ 512) (p1 : Int32) : Met l yX2_isRide wsX2_isRide ({ frames := 1, cells := 0, slots := 0, locals := 22 } : Room) (va_Pc [.ref om, .int p1] (wy_R G L f)) (vp_Si (fun z => z = bI (okN n p1))) 0 0 (fun _ => False) := by
  refine Met.ofW (cc := cX2_isRide) (maxL := 2) (ret := (some .boolean)) (by decide) rfl ?_
  intro p e s m args below meth c s₁ B hml hv
  obtain ⟨rfl, hP, hK⟩ := hv
  have hx := B.exec
  have hb := B.bytes
  have hr := B.returns
  have hts := atoms_spec (ws := wsX2_isRide) B.pre
  have hown : s.vm.findClass RX2 = some m.cls := findClass_of_methodNamed B.named
  have hlocks := B.notSynchronized
  have hinX2 : ∀ w ∈ wsX20, w ∈ wsX2_isRide := by decide +kernel
  have hn : n ≤ 40 := hq.2.2.2.2.2.2.2.2.2.2.2.2.2.1
  have hwk : wk ≤ 20 := hq.2.2.2.2.2.2.2.2.2.2.2.2.2.2
  have hsN : ∀ v r, stN v r < 2 ^ 31 := fun v r => by unfold stN; split <;> (try split) <;> (try split) <;> decide
  have hdN : ∀ v r, dpN v r < 2 ^ 31 := fun v r => by unfold dpN; split <;> (try split) <;> (try split) <;> decide
  have hl := lv_entry ([.ref om, .int p1]) (n := 2) (Nat.le_of_ble_eq_true rfl)
  rw [lg_entry_eq]
  generalize (lg_sl ([.ref om, .int p1]) ++ List.replicate (2 - (lg_sl ([.ref om, .int p1])).length) Slot.unset).toArray = ls at hl ⊢
  have hl : lv_has ls 2 [(0, .ref om), (1, .int p1)] := hl
  refine lv_iload_n hx hb dX2_isRide_0 rfl (lv_at hl 1 rfl) ?_
  refine lv_iconst (v := 0) hx hb dX2_isRide_1 (by decide) ?_
  refine lv_aload_n hx hb dX2_isRide_2 rfl (lv_at hl 0 rfl) ?_
  refine wy_get (ci := 3) (v := .int (nI n)) (C := RX2) (T := TX2) (N := 15) hx hb hts hinX2 hown hK hP hq.1 rfl 2 (by decide) (hts (.fieldLink RX2 51 "WheelpayModel" "rides" "I") (by decide +kernel)) (fun _ h9 => h9) rfl dX2_isRide_3 ?_
  refine lv_iconst (v := 1) hx hb dX2_isRide_6 (by decide) ?_
  refine lv_isub hx hb dX2_isRide_7 ?_
  refine lv_topi (fun x_1 ex_1 => ?_)
  refine vp_callSi (W.runS (As := [.int p1, .int 0, .int x_1]) (rest := []) ⟨hx, hb, hml, hown, hts⟩ (m_X2_isIn l (p1) (0) (x_1)) (va_cwS 3 hts gX2_isRide_X2_isIn rfl rfl rfl (by decide +kernel) ⟨Nat.le_of_ble_eq_true rfl, Nat.le_of_ble_eq_true rfl⟩) (wy_pSN) rfl rfl hl.1 rfl (lv_room (Nat.le_of_ble_eq_true rfl)) dX2_isRide_8 ⟨Nat.le_of_ble_eq_true rfl, Nat.le_of_ble_eq_true rfl⟩) (fun r_2 er_2 => ?_)
  exact wy_zR (by rw [er_2, rng_okN (n := n) (by omega) (by rw [ex_1, Int32.sub_add_cancel]) (fun z => by rw [ex_1, z]; rfl)]) hx hb hr hlocks dX2_isRide_11
set_option maxHeartbeats 4000000 in
set_option maxRecDepth 100000 in
theorem m_X2_isDriver (l : Launch) (p0 : Int32) : Met l yX2_isDriver wsX2_isDriver ({ frames := 1, cells := 0, slots := 0, locals := 22 } : Room) (va_Pc [.int p0] (fun _ => True)) (vp_Si (fun z => z = bI (okN 5 p0))) 0 0 (fun _ => False) := by
  refine Met.ofW (cc := cX2_isDriver) (maxL := 1) (ret := (some .boolean)) (by decide) rfl ?_
  intro p e s m args below meth c s₁ B hml hv
  obtain ⟨rfl, -⟩ := hv
  have hx := B.exec
  have hb := B.bytes
  have hr := B.returns
  have hts := atoms_spec (ws := wsX2_isDriver) B.pre
  have hown : s.vm.findClass RX2 = some m.cls := findClass_of_methodNamed B.named
  have hlocks := B.notSynchronized
  have hl := lv_entry ([.int p0]) (n := 1) (Nat.le_of_ble_eq_true rfl)
  rw [lg_entry_eq]
  generalize (lg_sl ([.int p0]) ++ List.replicate (1 - (lg_sl ([.int p0])).length) Slot.unset).toArray = ls at hl ⊢
  have hl : lv_has ls 1 [(0, .int p0)] := hl
  refine lv_iload_n hx hb dX2_isDriver_0 rfl (lv_at hl 0 rfl) ?_
  refine lv_iconst (v := 0) hx hb dX2_isDriver_1 (by decide) ?_
  refine lv_iconst (v := 4) hx hb dX2_isDriver_2 (by decide) ?_
  refine vp_callSi (W.runS (As := [.int p0, .int 0, .int 4]) (rest := []) ⟨hx, hb, hml, hown, hts⟩ (m_X2_isIn l (p0) (0) (4)) (va_cwS 3 hts gX2_isDriver_X2_isIn rfl rfl rfl (by decide +kernel) ⟨Nat.le_of_ble_eq_true rfl, Nat.le_of_ble_eq_true rfl⟩) (wy_pSN) rfl rfl hl.1 rfl (lv_room (Nat.le_of_ble_eq_true rfl)) dX2_isDriver_3 ⟨Nat.le_of_ble_eq_true rfl, Nat.le_of_ble_eq_true rfl⟩) (fun r_1 er_1 => ?_)
  exact wy_zR (by rw [er_1, rng_okN (n := 5) (by decide) rfl (fun z => absurd z (by decide))]) hx hb hr hlocks dX2_isDriver_6
set_option maxHeartbeats 4000000 in
set_option maxRecDepth 100000 in
theorem m_X2_isRider (l : Launch) {G : wy_G} {L : List Nat} {f : Nat → va_E} {om : Nat} {ma : Nat → Nat} {n : Nat} {km mn : Int32} {wk : Nat} {th : Int32} {po : Nat → Int32} {rr : Nat → wr_V} {g0 g1 g2 g3 g4 g5 g6 g7 g8 g9 : Nat → Int32} {t : Nat} (hq : wm_S G L f om ma n km mn wk th g0 g1 g2 g3 g4 g5 g6 g7 g8 g9) (hm : wm_r po rr g0 g1 g2 g3 g4 g5 g6 g7 g8 g9) (hi : ∀ k, k < 40 → wi t (rr k)) (ht : t ≤ 512) (p1 p2 : Int32) : Met l yX2_isRider wsX2_isRider ({ frames := 2, cells := 0, slots := 0, locals := 43 } : Room) (va_Pc [.ref om, .int p1, .int p2] (wy_R G L f)) (vp_Si (fun z => z = bI (okN n p1 && okN 10 p2))) 0 0 (fun _ => False) := by
  refine Met.ofW (cc := cX2_isRider) (maxL := 3) (ret := (some .boolean)) (by decide) rfl ?_
  intro p e s m args below meth c s₁ B hml hv
  obtain ⟨rfl, hP, hK⟩ := hv
  have hx := B.exec
  have hb := B.bytes
  have hr := B.returns
  have hts := atoms_spec (ws := wsX2_isRider) B.pre
  have hown : s.vm.findClass RX2 = some m.cls := findClass_of_methodNamed B.named
  have hlocks := B.notSynchronized
  have hn : n ≤ 40 := hq.2.2.2.2.2.2.2.2.2.2.2.2.2.1
  have hwk : wk ≤ 20 := hq.2.2.2.2.2.2.2.2.2.2.2.2.2.2
  have hsN : ∀ v r, stN v r < 2 ^ 31 := fun v r => by unfold stN; split <;> (try split) <;> (try split) <;> decide
  have hdN : ∀ v r, dpN v r < 2 ^ 31 := fun v r => by unfold dpN; split <;> (try split) <;> (try split) <;> decide
  have hl := lv_entry ([.ref om, .int p1, .int p2]) (n := 3) (Nat.le_of_ble_eq_true rfl)
  rw [lg_entry_eq]
  generalize (lg_sl ([.ref om, .int p1, .int p2]) ++ List.replicate (3 - (lg_sl ([.ref om, .int p1, .int p2])).length) Slot.unset).toArray = ls at hl ⊢
  have hl : lv_has ls 3 [(0, .ref om), (1, .int p1), (2, .int p2)] := hl
  refine lv_aload_n hx hb dX2_isRider_0 rfl (lv_at hl 0 rfl) ?_
  refine lv_iload_n hx hb dX2_isRider_1 rfl (lv_at hl 1 rfl) ?_
  refine vp_callSi (W.runV (As := [.int p1]) (rest := []) ⟨hx, hb, hml, hown, hts⟩ (m_X2_isRide l hq hm hi ht (p1)) (cwV 1 hts gX2_isRider_X2_isRide rfl rfl rfl (by decide +kernel) ⟨Nat.le_of_ble_eq_true rfl, Nat.le_of_ble_eq_true rfl⟩) (wy_pVR hK hP hq.1 rfl) rfl rfl hl.1 rfl (lv_room (Nat.le_of_ble_eq_true rfl)) dX2_isRider_2 ⟨Nat.le_of_ble_eq_true rfl, Nat.le_of_ble_eq_true rfl⟩) (fun r_1 er_1 => ?_)
  refine lv_if_eq (tgt := 22) hx hb dX2_isRider_5 (by decide) (fun c_2 => ?_) (fun c_2 => ?_)
  · have bc_2 : (okN n p1) = false := bI_0 (er_1.symm.trans c_2)
    refine lv_iconst (v := 0) hx hb dX2_isRider_22 (by decide) ?_
    exact wy_zR (by simp [bI, bc_2]) hx hb hr hlocks dX2_isRider_23
  · have bc_2 : (okN n p1) = true := bI_1 (fun z => c_2 (er_1.trans z))
    refine lv_iload_n hx hb dX2_isRider_8 rfl (lv_at hl 2 rfl) ?_
    refine lv_iconst (v := 0) hx hb dX2_isRider_9 (by decide) ?_
    refine lv_bipush (v := 9) hx hb dX2_isRider_10 (by decide) ?_
    refine vp_callSi (W.runS (As := [.int p2, .int 0, .int 9]) (rest := []) ⟨hx, hb, hml, hown, hts⟩ (m_X2_isIn l (p2) (0) (9)) (va_cwS 3 hts gX2_isRider_X2_isIn rfl rfl rfl (by decide +kernel) ⟨Nat.le_of_ble_eq_true rfl, Nat.le_of_ble_eq_true rfl⟩) (wy_pSN) rfl rfl hl.1 rfl (lv_room (Nat.le_of_ble_eq_true rfl)) dX2_isRider_12 ⟨Nat.le_of_ble_eq_true rfl, Nat.le_of_ble_eq_true rfl⟩) (fun r_3 er_3 => ?_)
    have hr_4 : r_3 = bI (okN 10 p2) := er_3.trans (congrArg bI (rng_okN (n := 10) (by decide) rfl (fun z => absurd z (by decide))))
    refine lv_if_eq (tgt := 22) hx hb dX2_isRider_15 (by decide) (fun c_5 => ?_) (fun c_5 => ?_)
    · have bc_5 : (okN 10 p2) = false := bI_0 (hr_4.symm.trans c_5)
      refine lv_iconst (v := 0) hx hb dX2_isRider_22 (by decide) ?_
      exact wy_zR (by simp [bI, bc_2, bc_5]) hx hb hr hlocks dX2_isRider_23
    · have bc_5 : (okN 10 p2) = true := bI_1 (fun z => c_5 (hr_4.trans z))
      refine lv_iconst (v := 1) hx hb dX2_isRider_18 (by decide) ?_
      refine lv_goto (tgt := 23) hx hb dX2_isRider_19 (by decide) ?_
      exact wy_zR (by simp [bI, bc_2, bc_5]) hx hb hr hlocks dX2_isRider_23
set_option maxHeartbeats 4000000 in
set_option maxRecDepth 100000 in
theorem m_X2_at (l : Launch) {G : wy_G} {L : List Nat} {f : Nat → va_E} {om : Nat} {ma : Nat → Nat} {n : Nat} {km mn : Int32} {wk : Nat} {th : Int32} {po : Nat → Int32} {rr : Nat → wr_V} {g0 g1 g2 g3 g4 g5 g6 g7 g8 g9 : Nat → Int32} {t : Nat} (hq : wm_S G L f om ma n km mn wk th g0 g1 g2 g3 g4 g5 g6 g7 g8 g9) (hm : wm_r po rr g0 g1 g2 g3 g4 g5 g6 g7 g8 g9) (hi : ∀ k, k < 40 → wi t (rr k)) (ht : t ≤ 512) (p1 : Int32) (k : Nat) (hk : k < 40) (e1 : p1 = nI k) (p2 : Int32) (r : Nat) (hr10 : r < 10) (e2 : p2 = nI r) : Met l yX2_at wsX2_at ({ frames := 0, cells := 0, slots := 0, locals := 0 } : Room) (va_Pc [.ref om, .int p1, .int p2] (wy_R G L f)) (vp_Si (fun z => z = nI (stN (rr k) r))) 0 0 (fun _ => False) := by
  refine Met.ofW (cc := cX2_at) (maxL := 3) (ret := (some .int)) (by decide) rfl ?_
  intro p e s m args below meth c s₁ B hml hv
  obtain ⟨rfl, hP, hK⟩ := hv
  have hx := B.exec
  have hb := B.bytes
  have hr := B.returns
  have hts := atoms_spec (ws := wsX2_at) B.pre
  have hown : s.vm.findClass RX2 = some m.cls := findClass_of_methodNamed B.named
  have hlocks := B.notSynchronized
  have hinX2 : ∀ w ∈ wsX20, w ∈ wsX2_at := by decide +kernel
  have hn : n ≤ 40 := hq.2.2.2.2.2.2.2.2.2.2.2.2.2.1
  have hwk : wk ≤ 20 := hq.2.2.2.2.2.2.2.2.2.2.2.2.2.2
  have hsN : ∀ v r, stN v r < 2 ^ 31 := fun v r => by unfold stN; split <;> (try split) <;> (try split) <;> decide
  have hdN : ∀ v r, dpN v r < 2 ^ 31 := fun v r => by unfold dpN; split <;> (try split) <;> (try split) <;> decide
  have hl := lv_entry ([.ref om, .int p1, .int p2]) (n := 3) (Nat.le_of_ble_eq_true rfl)
  rw [lg_entry_eq]
  generalize (lg_sl ([.ref om, .int p1, .int p2]) ++ List.replicate (3 - (lg_sl ([.ref om, .int p1, .int p2])).length) Slot.unset).toArray = ls at hl ⊢
  have hl : lv_has ls 3 [(0, .ref om), (1, .int p1), (2, .int p2)] := hl
  refine lv_aload_n hx hb dX2_at_0 rfl (lv_at hl 0 rfl) ?_
  refine wy_get (ci := 3) (v := .ref (ma 5)) (C := RX2) (T := TX2) (N := 15) hx hb hts hinX2 hown hK hP hq.1 rfl 8 (by decide) (hts (.fieldLink RX2 33 "WheelpayModel" "state" "[I") (by decide +kernel)) (fun _ h9 => h9) rfl dX2_at_1 ?_
  refine lv_bipush (v := 10) hx hb dX2_at_4 (by decide) ?_
  refine lv_iload_n hx hb dX2_at_6 rfl (lv_at hl 1 rfl) ?_
  refine lv_imul hx hb dX2_at_7 ?_
  refine lv_topi (fun x_1 ex_1 => ?_)
  have nx_1 : x_1 = nI (10 * k) := ex_1.trans ((congr (congrArg (fun u v : Int32 => u * v) (rfl : (10 : Int32) = nI 10)) e1).trans (pk_mul _ _))
  refine lv_iload_n hx hb dX2_at_8 rfl (lv_at hl 2 rfl) ?_
  refine lv_iadd hx hb dX2_at_9 ?_
  refine lv_topi (fun x_2 ex_2 => ?_)
  have nx_2 : x_2 = nI (10 * k + r) := ex_2.trans ((congr (congrArg (fun u v : Int32 => u + v) nx_1) e2).trans (nI_add _ _))
  refine wy_iald hx hb hK hP hq.2.2.2.2.2.2.1 (10 * k + r) nx_2 (by omega) (by omega) dX2_at_10 ?_
  rw [show g5 (10 * k + r) = nI (stN (rr k) r) from ((hm.1 k (by omega)).2.2.2.2.2 r (by omega)).1]
  exact wy_iR rfl hx hb hr hlocks dX2_at_11
set_option maxHeartbeats 4000000 in
set_option maxRecDepth 100000 in
theorem m_X2_many (l : Launch) {G : wy_G} {L : List Nat} {f : Nat → va_E} {om : Nat} {ma : Nat → Nat} {n : Nat} {km mn : Int32} {wk : Nat} {th : Int32} {po : Nat → Int32} {rr : Nat → wr_V} {g0 g1 g2 g3 g4 g5 g6 g7 g8 g9 : Nat → Int32} {t : Nat} (hq : wm_S G L f om ma n km mn wk th g0 g1 g2 g3 g4 g5 g6 g7 g8 g9) (hm : wm_r po rr g0 g1 g2 g3 g4 g5 g6 g7 g8 g9) (hi : ∀ k, k < 40 → wi t (rr k)) (ht : t ≤ 512) (p1 : Int32) (k : Nat) (hk : k < 40) (e1 : p1 = nI k) (p2 : Int32) (w : Nat) (hw2 : w < 2 ^ 31) (e2 : p2 = nI w) : Met l yX2_many wsX2_many ({ frames := 0, cells := 0, slots := 0, locals := 0 } : Room) (va_Pc [.ref om, .int p1, .int p2] (wy_R G L f)) (vp_Si (fun z => z = nI (mny (rr k) w))) 0 0 (fun _ => False) := by
  refine Met.ofW (cc := cX2_many) (maxL := 5) (ret := (some .int)) (by decide) rfl ?_
  intro p e s m args below meth c s₁ B hml hv
  obtain ⟨rfl, hP, hK⟩ := hv
  have hx := B.exec
  have hb := B.bytes
  have hr := B.returns
  have hts := atoms_spec (ws := wsX2_many) B.pre
  have hown : s.vm.findClass RX2 = some m.cls := findClass_of_methodNamed B.named
  have hlocks := B.notSynchronized
  have hinX2 : ∀ w ∈ wsX20, w ∈ wsX2_many := by decide +kernel
  have hn : n ≤ 40 := hq.2.2.2.2.2.2.2.2.2.2.2.2.2.1
  have hwk : wk ≤ 20 := hq.2.2.2.2.2.2.2.2.2.2.2.2.2.2
  have hsN : ∀ v r, stN v r < 2 ^ 31 := fun v r => by unfold stN; split <;> (try split) <;> (try split) <;> decide
  have hdN : ∀ v r, dpN v r < 2 ^ 31 := fun v r => by unfold dpN; split <;> (try split) <;> (try split) <;> decide
  have hl := lv_entry ([.ref om, .int p1, .int p2]) (n := 5) (Nat.le_of_ble_eq_true rfl)
  rw [lg_entry_eq]
  generalize (lg_sl ([.ref om, .int p1, .int p2]) ++ List.replicate (5 - (lg_sl ([.ref om, .int p1, .int p2])).length) Slot.unset).toArray = ls at hl ⊢
  have hl : lv_has ls 5 [(0, .ref om), (1, .int p1), (2, .int p2)] := hl
  refine lv_iconst (v := 0) hx hb dX2_many_0 (by decide) ?_
  refine lv_istore_n (lv' := [(3, .int 0), (0, .ref om), (1, .int p1), (2, .int p2)]) hx hb dX2_many_1 rfl hl (by decide) rfl (fun ls hl => ?_)
  refine lv_iconst (v := 0) hx hb dX2_many_2 (by decide) ?_
  refine lv_istore (lv' := [(4, .int 0), (3, .int 0), (0, .ref om), (1, .int p1), (2, .int p2)]) hx hb dX2_many_3 hl (by decide) rfl (fun ls hl => ?_)
  have KK : ∀ (d i : Nat), i + d = 10 → ∀ (xi_i : Int32), xi_i = nI (i) → ∀ (a_s : Int32), a_s = nI (cb (fun r => decide (stN (rr k) r = w)) i) → ∀ ls : Array Slot, lv_has ls 5 [(4, .int xi_i), (3, .int a_s), (0, .ref om), (1, .int p1), (2, .int p2)] → W p l e (headSpec wsX2_many ({ frames := 0, cells := 0, slots := 0, locals := 0 } : Room)).room s m ([.ref om, .int p1, .int p2] : List Value).toArray below meth c s.heap [] 0 0 (MQ below (vp_Si (fun z => z = nI (mny (rr k) w))) ([.ref om, .int p1, .int p2] : List Value).toArray s 0 0 (fun _ => False)) (F0 m 5 ls []) := by
    intro d
    induction d with
    | zero =>
      intro i hd_i xi_i ei_i a_s ha_s ls hl
      refine lv_iload hx hb dX2_many_5 (lv_at hl 0 rfl) ?_
      refine lv_bipush (v := 10) hx hb dX2_many_7 (by decide) ?_
      refine lv_icmp_ge (tgt := 42) hx hb dX2_many_9 (by decide) (fun c_1 => ?_) (fun c_1 => ?_)
      · have nc_1 : 10 ≤ i := (wy_ge ei_i (rfl : (10 : Int32) = nI 10) (by first | omega | exact hsN _ _ | exact hdN _ _ | exact Nat.lt_of_le_of_lt (cb_le _ _) (by omega)) (by decide)).mp c_1
        obtain rfl : 10 = i := by omega
        refine lv_iload_n hx hb dX2_many_42 rfl (lv_at hl 1 rfl) ?_
        exact wy_iR ha_s hx hb hr hlocks dX2_many_43
      · have nc_1 : ¬ (10 ≤ i) := fun z => c_1 ((wy_ge ei_i (rfl : (10 : Int32) = nI 10) (by first | omega | exact hsN _ _ | exact hdN _ _ | exact Nat.lt_of_le_of_lt (cb_le _ _) (by omega)) (by decide)).mpr z)
        exact absurd nc_1 (by omega)
    | succ d ih_d =>
      intro i hd_i xi_i ei_i a_s ha_s ls hl
      refine lv_iload hx hb dX2_many_5 (lv_at hl 0 rfl) ?_
      refine lv_bipush (v := 10) hx hb dX2_many_7 (by decide) ?_
      refine lv_icmp_ge (tgt := 42) hx hb dX2_many_9 (by decide) (fun c_2 => ?_) (fun c_2 => ?_)
      · have nc_2 : 10 ≤ i := (wy_ge ei_i (rfl : (10 : Int32) = nI 10) (by first | omega | exact hsN _ _ | exact hdN _ _ | exact Nat.lt_of_le_of_lt (cb_le _ _) (by omega)) (by decide)).mp c_2
        exact absurd nc_2 (by omega)
      · have nc_2 : ¬ (10 ≤ i) := fun z => c_2 ((wy_ge ei_i (rfl : (10 : Int32) = nI 10) (by first | omega | exact hsN _ _ | exact hdN _ _ | exact Nat.lt_of_le_of_lt (cb_le _ _) (by omega)) (by decide)).mpr z)
        refine lv_iload_n hx hb dX2_many_12 rfl (lv_at hl 1 rfl) ?_
        refine lv_aload_n hx hb dX2_many_13 rfl (lv_at hl 2 rfl) ?_
        refine wy_get (ci := 3) (v := .ref (ma 5)) (C := RX2) (T := TX2) (N := 15) hx hb hts hinX2 hown hK hP hq.1 rfl 8 (by decide) (hts (.fieldLink RX2 33 "WheelpayModel" "state" "[I") (by decide +kernel)) (fun _ h9 => h9) rfl dX2_many_14 ?_
        refine lv_bipush (v := 10) hx hb dX2_many_17 (by decide) ?_
        refine lv_iload_n hx hb dX2_many_19 rfl (lv_at hl 3 rfl) ?_
        refine lv_imul hx hb dX2_many_20 ?_
        refine lv_topi (fun x_3 ex_3 => ?_)
        have nx_3 : x_3 = nI (10 * k) := ex_3.trans ((congr (congrArg (fun u v : Int32 => u * v) (rfl : (10 : Int32) = nI 10)) e1).trans (pk_mul _ _))
        refine lv_iload hx hb dX2_many_21 (lv_at hl 0 rfl) ?_
        refine lv_iadd hx hb dX2_many_23 ?_
        refine lv_topi (fun x_4 ex_4 => ?_)
        have nx_4 : x_4 = nI (10 * k + i) := ex_4.trans ((congr (congrArg (fun u v : Int32 => u + v) nx_3) ei_i).trans (nI_add _ _))
        refine wy_iald hx hb hK hP hq.2.2.2.2.2.2.1 (10 * k + i) nx_4 (by omega) (by omega) dX2_many_24 ?_
        rw [show g5 (10 * k + i) = nI (stN (rr k) i) from ((hm.1 k (by omega)).2.2.2.2.2 i (by omega)).1]
        refine lv_iload_n hx hb dX2_many_25 rfl (lv_at hl 4 rfl) ?_
        refine lv_icmp_ne (tgt := 33) hx hb dX2_many_26 (by decide) (fun c_5 => ?_) (fun c_5 => ?_)
        · have nc_5 : ¬ (stN (rr k) i = w) := fun z => c_5 ((wy_eq rfl e2 (by first | omega | exact hsN _ _ | exact hdN _ _ | exact Nat.lt_of_le_of_lt (cb_le _ _) (by omega)) (by first | omega | exact hsN _ _ | exact hdN _ _ | exact Nat.lt_of_le_of_lt (cb_le _ _) (by omega))).mpr z)
          refine lv_iconst (v := 0) hx hb dX2_many_33 (by decide) ?_
          refine lv_iadd hx hb dX2_many_34 ?_
          refine lv_topi (fun x_6 ex_6 => ?_)
          have nx_6 : x_6 = nI (cb (fun r => decide (stN (rr k) r = w)) i + 0) := ex_6.trans ((congr (congrArg (fun u v : Int32 => u + v) ha_s) (rfl : (0 : Int32) = nI 0)).trans (nI_add _ _))
          refine lv_istore_n (lv' := [(3, .int x_6), (4, .int xi_i), (0, .ref om), (1, .int p1), (2, .int p2)]) hx hb dX2_many_35 rfl hl (by decide) rfl (fun ls hl => ?_)
          obtain ⟨x_7, ex_7⟩ : ∃ y : Int32, y = xi_i + 1 := ⟨_, rfl⟩
          have nx_7 : x_7 = nI (i + 1) := by rw [ex_7, ei_i, nI_1]
          refine lv_iinc (v := x_7) (lv' := [(4, .int x_7), (3, .int x_6), (0, .ref om), (1, .int p1), (2, .int p2)]) hx hb dX2_many_36 hl (k := 1) rfl (by rw [ex_7]; rfl) (by decide) rfl (fun ls hl => ?_)
          refine lv_goto (tgt := 5) hx hb dX2_many_39 (by decide) ?_
          exact ih_d (i + 1) (by omega) _ nx_7 _ (by rw [show cb (fun r => decide (stN (rr k) r = w)) (i + 1) = cb (fun r => decide (stN (rr k) r = w)) i by simp [cb, nc_5]]; exact nx_6) ls (lv_sub hl [0, 1, 2, 3, 4] rfl)
        · have nc_5 : stN (rr k) i = w := (wy_eq rfl e2 (by first | omega | exact hsN _ _ | exact hdN _ _ | exact Nat.lt_of_le_of_lt (cb_le _ _) (by omega)) (by first | omega | exact hsN _ _ | exact hdN _ _ | exact Nat.lt_of_le_of_lt (cb_le _ _) (by omega))).mp c_5
          refine lv_iconst (v := 1) hx hb dX2_many_29 (by decide) ?_
          refine lv_goto (tgt := 34) hx hb dX2_many_30 (by decide) ?_
          refine lv_iadd hx hb dX2_many_34 ?_
          refine lv_topi (fun x_8 ex_8 => ?_)
          have nx_8 : x_8 = nI (cb (fun r => decide (stN (rr k) r = w)) i + 1) := ex_8.trans ((congr (congrArg (fun u v : Int32 => u + v) ha_s) (rfl : (1 : Int32) = nI 1)).trans (nI_add _ _))
          refine lv_istore_n (lv' := [(3, .int x_8), (4, .int xi_i), (0, .ref om), (1, .int p1), (2, .int p2)]) hx hb dX2_many_35 rfl hl (by decide) rfl (fun ls hl => ?_)
          obtain ⟨x_9, ex_9⟩ : ∃ y : Int32, y = xi_i + 1 := ⟨_, rfl⟩
          have nx_9 : x_9 = nI (i + 1) := by rw [ex_9, ei_i, nI_1]
          refine lv_iinc (v := x_9) (lv' := [(4, .int x_9), (3, .int x_8), (0, .ref om), (1, .int p1), (2, .int p2)]) hx hb dX2_many_36 hl (k := 1) rfl (by rw [ex_9]; rfl) (by decide) rfl (fun ls hl => ?_)
          refine lv_goto (tgt := 5) hx hb dX2_many_39 (by decide) ?_
          exact ih_d (i + 1) (by omega) _ nx_9 _ (by rw [show cb (fun r => decide (stN (rr k) r = w)) (i + 1) = cb (fun r => decide (stN (rr k) r = w)) i + 1 by simp [cb, nc_5]]; exact nx_8) ls (lv_sub hl [0, 1, 2, 3, 4] rfl)
  exact KK (10) 0 (by omega) _ rfl _ rfl ls (lv_sub hl [0, 1, 2, 3, 4] rfl)
set_option maxHeartbeats 4000000 in
set_option maxRecDepth 100000 in
theorem m_X2_free (l : Launch) {G : wy_G} {L : List Nat} {f : Nat → va_E} {om : Nat} {ma : Nat → Nat} {n : Nat} {km mn : Int32} {wk : Nat} {th : Int32} {po : Nat → Int32} {rr : Nat → wr_V} {g0 g1 g2 g3 g4 g5 g6 g7 g8 g9 : Nat → Int32} {t : Nat} (hq : wm_S G L f om ma n km mn wk th g0 g1 g2 g3 g4 g5 g6 g7 g8 g9) (hm : wm_r po rr g0 g1 g2 g3 g4 g5 g6 g7 g8 g9) (hi : ∀ k, k < 40 → wi t (rr k)) (ht : t ≤ 512) (p1 : Int32) (k : Nat) (hk : k < 40) (e1 : p1 = nI k) (hf : rfi (rr k) = false) : Met l yX2_free wsX2_free ({ frames := 1, cells := 0, slots := 0, locals := 24 } : Room) (va_Pc [.ref om, .int p1] (wy_R G L f)) (vp_Si (fun z => z = freeR (rr k))) 0 0 (fun _ => False) := by
  refine Met.ofW (cc := cX2_free) (maxL := 2) (ret := (some .int)) (by decide) rfl ?_
  intro p e s m args below meth c s₁ B hml hv
  obtain ⟨rfl, hP, hK⟩ := hv
  have hx := B.exec
  have hb := B.bytes
  have hr := B.returns
  have hts := atoms_spec (ws := wsX2_free) B.pre
  have hown : s.vm.findClass RX2 = some m.cls := findClass_of_methodNamed B.named
  have hlocks := B.notSynchronized
  have hn : n ≤ 40 := hq.2.2.2.2.2.2.2.2.2.2.2.2.2.1
  have hwk : wk ≤ 20 := hq.2.2.2.2.2.2.2.2.2.2.2.2.2.2
  have hsN : ∀ v r, stN v r < 2 ^ 31 := fun v r => by unfold stN; split <;> (try split) <;> (try split) <;> decide
  have hdN : ∀ v r, dpN v r < 2 ^ 31 := fun v r => by unfold dpN; split <;> (try split) <;> (try split) <;> decide
  have hl := lv_entry ([.ref om, .int p1]) (n := 2) (Nat.le_of_ble_eq_true rfl)
  rw [lg_entry_eq]
  generalize (lg_sl ([.ref om, .int p1]) ++ List.replicate (2 - (lg_sl ([.ref om, .int p1])).length) Slot.unset).toArray = ls at hl ⊢
  have hl : lv_has ls 2 [(0, .ref om), (1, .int p1)] := hl
  refine lv_iconst (v := 4) hx hb dX2_free_0 (by decide) ?_
  refine lv_aload_n hx hb dX2_free_1 rfl (lv_at hl 0 rfl) ?_
  refine lv_iload_n hx hb dX2_free_2 rfl (lv_at hl 1 rfl) ?_
  refine lv_iconst (v := 1) hx hb dX2_free_3 (by decide) ?_
  refine vp_callSi (W.runV (As := [.int p1, .int 1]) (rest := [.int 4]) ⟨hx, hb, hml, hown, hts⟩ (m_X2_many l hq hm hi ht (p1) (k) (by omega) e1 (1) (1) (by decide) (rfl : (1 : Int32) = nI 1)) (cwV 2 hts gX2_free_X2_many rfl rfl rfl (by decide +kernel) ⟨Nat.le_of_ble_eq_true rfl, Nat.le_of_ble_eq_true rfl⟩) (wy_pVR hK hP hq.1 rfl) rfl rfl hl.1 rfl (lv_room (Nat.le_of_ble_eq_true rfl)) dX2_free_4 ⟨Nat.le_of_ble_eq_true rfl, Nat.le_of_ble_eq_true rfl⟩) (fun r_1 er_1 => ?_)
  refine lv_isub hx hb dX2_free_7 ?_
  refine lv_topi (fun x_2 ex_2 => ?_)
  refine lv_aload_n hx hb dX2_free_8 rfl (lv_at hl 0 rfl) ?_
  refine lv_iload_n hx hb dX2_free_9 rfl (lv_at hl 1 rfl) ?_
  refine lv_iconst (v := 2) hx hb dX2_free_10 (by decide) ?_
  refine vp_callSi (W.runV (As := [.int p1, .int 2]) (rest := [.int x_2]) ⟨hx, hb, hml, hown, hts⟩ (m_X2_many l hq hm hi ht (p1) (k) (by omega) e1 (2) (2) (by decide) (rfl : (2 : Int32) = nI 2)) (cwV 2 hts gX2_free_X2_many rfl rfl rfl (by decide +kernel) ⟨Nat.le_of_ble_eq_true rfl, Nat.le_of_ble_eq_true rfl⟩) (wy_pVR hK hP hq.1 rfl) rfl rfl hl.1 rfl (lv_room (Nat.le_of_ble_eq_true rfl)) dX2_free_11 ⟨Nat.le_of_ble_eq_true rfl, Nat.le_of_ble_eq_true rfl⟩) (fun r_3 er_3 => ?_)
  refine lv_isub hx hb dX2_free_14 ?_
  refine lv_topi (fun x_4 ex_4 => ?_)
  exact wy_iR (by simp only [er_1, ex_2, er_3, ex_4]; rw [mny1 (t := t) hf, mny2 (hi k hk) hf]; rfl) hx hb hr hlocks dX2_free_15
set_option maxHeartbeats 4000000 in
set_option maxRecDepth 100000 in
theorem m_X2_belongs (l : Launch) {G : wy_G} {L : List Nat} {f : Nat → va_E} {om : Nat} {ma : Nat → Nat} {n : Nat} {km mn : Int32} {wk : Nat} {th : Int32} {po : Nat → Int32} {rr : Nat → wr_V} {g0 g1 g2 g3 g4 g5 g6 g7 g8 g9 : Nat → Int32} {t : Nat} (hq : wm_S G L f om ma n km mn wk th g0 g1 g2 g3 g4 g5 g6 g7 g8 g9) (hm : wm_r po rr g0 g1 g2 g3 g4 g5 g6 g7 g8 g9) (hi : ∀ k, k < 40 → wi t (rr k)) (ht : t ≤ 512) (p1 : Int32) (k : Nat) (hk : k < 40) (e1 : p1 = nI k) (p2 p3 : Int32) : Met l yX2_belongs wsX2_belongs ({ frames := 0, cells := 0, slots := 0, locals := 0 } : Room) (va_Pc [.ref om, .int p1, .int p2, .int p3] (wy_R G L f)) (vp_Si (fun z => z = bI (fbyR (rr k) p2 p3))) 0 0 (fun _ => False) := by
  refine Met.ofW (cc := cX2_belongs) (maxL := 4) (ret := (some .boolean)) (by decide) rfl ?_
  intro p e s m args below meth c s₁ B hml hv
  obtain ⟨rfl, hP, hK⟩ := hv
  have hx := B.exec
  have hb := B.bytes
  have hr := B.returns
  have hts := atoms_spec (ws := wsX2_belongs) B.pre
  have hown : s.vm.findClass RX2 = some m.cls := findClass_of_methodNamed B.named
  have hlocks := B.notSynchronized
  have hinX2 : ∀ w ∈ wsX20, w ∈ wsX2_belongs := by decide +kernel
  have hn : n ≤ 40 := hq.2.2.2.2.2.2.2.2.2.2.2.2.2.1
  have hwk : wk ≤ 20 := hq.2.2.2.2.2.2.2.2.2.2.2.2.2.2
  have hsN : ∀ v r, stN v r < 2 ^ 31 := fun v r => by unfold stN; split <;> (try split) <;> (try split) <;> decide
  have hdN : ∀ v r, dpN v r < 2 ^ 31 := fun v r => by unfold dpN; split <;> (try split) <;> (try split) <;> decide
  have hl := lv_entry ([.ref om, .int p1, .int p2, .int p3]) (n := 4) (Nat.le_of_ble_eq_true rfl)
  rw [lg_entry_eq]
  generalize (lg_sl ([.ref om, .int p1, .int p2, .int p3]) ++ List.replicate (4 - (lg_sl ([.ref om, .int p1, .int p2, .int p3])).length) Slot.unset).toArray = ls at hl ⊢
  have hl : lv_has ls 4 [(0, .ref om), (1, .int p1), (2, .int p2), (3, .int p3)] := hl
  refine lv_aload_n hx hb dX2_belongs_0 rfl (lv_at hl 0 rfl) ?_
  refine wy_get (ci := 3) (v := .ref (ma 3)) (C := RX2) (T := TX2) (N := 15) hx hb hts hinX2 hown hK hP hq.1 rfl 6 (by decide) (hts (.fieldLink RX2 26 "WheelpayModel" "isDone" "[Z") (by decide +kernel)) (fun _ h9 => h9) rfl dX2_belongs_1 ?_
  refine lv_iload_n hx hb dX2_belongs_4 rfl (lv_at hl 1 rfl) ?_
  refine wy_zald hx hb hK hP hq.2.2.2.2.1 (k) e1 (by omega) (by omega) dX2_belongs_5 ?_
  rw [show g3 (k) = bI (rfi (rr k)) from (hm.1 (k) (by omega)).2.2.2.1]
  refine lv_if_eq (tgt := 33) hx hb dX2_belongs_6 (by decide) (fun c_1 => ?_) (fun c_1 => ?_)
  · have bc_1 : (rfi (rr k)) = false := bI_0 (rfl.symm.trans c_1)
    refine lv_iconst (v := 0) hx hb dX2_belongs_33 (by decide) ?_
    exact wy_zR (by simp [bI, fbyR, bc_1]) hx hb hr hlocks dX2_belongs_34
  · have bc_1 : (rfi (rr k)) = true := bI_1 (fun z => c_1 (rfl.trans z))
    refine lv_aload_n hx hb dX2_belongs_9 rfl (lv_at hl 0 rfl) ?_
    refine wy_get (ci := 3) (v := .ref (ma 0)) (C := RX2) (T := TX2) (N := 15) hx hb hts hinX2 hown hK hP hq.1 rfl 3 (by decide) (hts (.fieldLink RX2 16 "WheelpayModel" "driver" "[I") (by decide +kernel)) (fun _ h9 => h9) rfl dX2_belongs_10 ?_
    refine lv_iload_n hx hb dX2_belongs_13 rfl (lv_at hl 1 rfl) ?_
    refine wy_iald hx hb hK hP hq.2.1 (k) e1 (by omega) (by omega) dX2_belongs_14 ?_
    rw [show g0 (k) = rdv (rr k) from (hm.1 (k) (by omega)).1]
    refine lv_iload_n hx hb dX2_belongs_15 rfl (lv_at hl 2 rfl) ?_
    refine lv_icmp_ne (tgt := 33) hx hb dX2_belongs_16 (by decide) (fun c_2 => ?_) (fun c_2 => ?_)
    · refine lv_iconst (v := 0) hx hb dX2_belongs_33 (by decide) ?_
      exact wy_zR (by simp [bI, fbyR, bc_1, c_2]) hx hb hr hlocks dX2_belongs_34
    · refine lv_aload_n hx hb dX2_belongs_19 rfl (lv_at hl 0 rfl) ?_
      refine wy_get (ci := 3) (v := .ref (ma 1)) (C := RX2) (T := TX2) (N := 15) hx hb hts hinX2 hown hK hP hq.1 rfl 4 (by decide) (hts (.fieldLink RX2 20 "WheelpayModel" "weekOf" "[I") (by decide +kernel)) (fun _ h9 => h9) rfl dX2_belongs_20 ?_
      refine lv_iload_n hx hb dX2_belongs_23 rfl (lv_at hl 1 rfl) ?_
      refine wy_iald hx hb hK hP hq.2.2.1 (k) e1 (by omega) (by omega) dX2_belongs_24 ?_
      rw [show g1 (k) = rwk (rr k) from (hm.1 (k) (by omega)).2.1]
      refine lv_iload_n hx hb dX2_belongs_25 rfl (lv_at hl 3 rfl) ?_
      refine lv_icmp_ne (tgt := 33) hx hb dX2_belongs_26 (by decide) (fun c_3 => ?_) (fun c_3 => ?_)
      · refine lv_iconst (v := 0) hx hb dX2_belongs_33 (by decide) ?_
        exact wy_zR (by simp [bI, fbyR, bc_1, c_2, c_3]) hx hb hr hlocks dX2_belongs_34
      · refine lv_iconst (v := 1) hx hb dX2_belongs_29 (by decide) ?_
        refine lv_goto (tgt := 34) hx hb dX2_belongs_30 (by decide) ?_
        exact wy_zR (by simp [bI, fbyR, bc_1, c_2, c_3]) hx hb hr hlocks dX2_belongs_34
set_option maxHeartbeats 4000000 in
set_option maxRecDepth 100000 in
theorem m_X2_isUnderWay (l : Launch) {G : wy_G} {L : List Nat} {f : Nat → va_E} {om : Nat} {ma : Nat → Nat} {n : Nat} {km mn : Int32} {wk : Nat} {th : Int32} {po : Nat → Int32} {rr : Nat → wr_V} {g0 g1 g2 g3 g4 g5 g6 g7 g8 g9 : Nat → Int32} {t : Nat} (hq : wm_S G L f om ma n km mn wk th g0 g1 g2 g3 g4 g5 g6 g7 g8 g9) (hm : wm_r po rr g0 g1 g2 g3 g4 g5 g6 g7 g8 g9) (hi : ∀ k, k < 40 → wi t (rr k)) (ht : t ≤ 512) (p1 : Int32) : Met l yX2_isUnderWay wsX2_isUnderWay ({ frames := 0, cells := 0, slots := 0, locals := 0 } : Room) (va_Pc [.ref om, .int p1] (wy_R G L f)) (vp_Si (fun z => z = bI (anyB (muB rr p1) n))) 0 0 (fun _ => False) := by
  refine Met.ofW (cc := cX2_isUnderWay) (maxL := 4) (ret := (some .boolean)) (by decide) rfl ?_
  intro p e s m args below meth c s₁ B hml hv
  obtain ⟨rfl, hP, hK⟩ := hv
  have hx := B.exec
  have hb := B.bytes
  have hr := B.returns
  have hts := atoms_spec (ws := wsX2_isUnderWay) B.pre
  have hown : s.vm.findClass RX2 = some m.cls := findClass_of_methodNamed B.named
  have hlocks := B.notSynchronized
  have hinX2 : ∀ w ∈ wsX20, w ∈ wsX2_isUnderWay := by decide +kernel
  have hn : n ≤ 40 := hq.2.2.2.2.2.2.2.2.2.2.2.2.2.1
  have hwk : wk ≤ 20 := hq.2.2.2.2.2.2.2.2.2.2.2.2.2.2
  have hsN : ∀ v r, stN v r < 2 ^ 31 := fun v r => by unfold stN; split <;> (try split) <;> (try split) <;> decide
  have hdN : ∀ v r, dpN v r < 2 ^ 31 := fun v r => by unfold dpN; split <;> (try split) <;> (try split) <;> decide
  have hl := lv_entry ([.ref om, .int p1]) (n := 4) (Nat.le_of_ble_eq_true rfl)
  rw [lg_entry_eq]
  generalize (lg_sl ([.ref om, .int p1]) ++ List.replicate (4 - (lg_sl ([.ref om, .int p1])).length) Slot.unset).toArray = ls at hl ⊢
  have hl : lv_has ls 4 [(0, .ref om), (1, .int p1)] := hl
  refine lv_iconst (v := 0) hx hb dX2_isUnderWay_0 (by decide) ?_
  refine lv_istore_n (lv' := [(2, .int 0), (0, .ref om), (1, .int p1)]) hx hb dX2_isUnderWay_1 rfl hl (by decide) rfl (fun ls hl => ?_)
  refine lv_iconst (v := 0) hx hb dX2_isUnderWay_2 (by decide) ?_
  refine lv_istore_n (lv' := [(3, .int 0), (2, .int 0), (0, .ref om), (1, .int p1)]) hx hb dX2_isUnderWay_3 rfl hl (by decide) rfl (fun ls hl => ?_)
  have KK : ∀ (d i : Nat), i + d = n → ∀ (xi_i : Int32), xi_i = nI (i) → ∀ (a_s : Int32), a_s = bI (anyB (muB rr p1) i) → ∀ ls : Array Slot, lv_has ls 4 [(3, .int xi_i), (2, .int a_s), (0, .ref om), (1, .int p1)] → W p l e (headSpec wsX2_isUnderWay ({ frames := 0, cells := 0, slots := 0, locals := 0 } : Room)).room s m ([.ref om, .int p1] : List Value).toArray below meth c s.heap [] 0 0 (MQ below (vp_Si (fun z => z = bI (anyB (muB rr p1) n))) ([.ref om, .int p1] : List Value).toArray s 0 0 (fun _ => False)) (F0 m 4 ls []) := by
    intro d
    induction d with
    | zero =>
      intro i hd_i xi_i ei_i a_s ha_s ls hl
      refine lv_iload_n hx hb dX2_isUnderWay_4 rfl (lv_at hl 0 rfl) ?_
      refine lv_aload_n hx hb dX2_isUnderWay_5 rfl (lv_at hl 2 rfl) ?_
      refine wy_get (ci := 3) (v := .int (nI n)) (C := RX2) (T := TX2) (N := 15) hx hb hts hinX2 hown hK hP hq.1 rfl 2 (by decide) (hts (.fieldLink RX2 51 "WheelpayModel" "rides" "I") (by decide +kernel)) (fun _ h9 => h9) rfl dX2_isUnderWay_6 ?_
      refine lv_icmp_ge (tgt := 52) hx hb dX2_isUnderWay_9 (by decide) (fun c_1 => ?_) (fun c_1 => ?_)
      · have nc_1 : n ≤ i := (wy_ge ei_i rfl (by first | omega | exact hsN _ _ | exact hdN _ _ | exact Nat.lt_of_le_of_lt (cb_le _ _) (by omega)) (by first | omega | exact hsN _ _ | exact hdN _ _ | exact Nat.lt_of_le_of_lt (cb_le _ _) (by omega))).mp c_1
        obtain rfl : n = i := by omega
        refine lv_iload_n hx hb dX2_isUnderWay_52 rfl (lv_at hl 1 rfl) ?_
        exact wy_zR ha_s hx hb hr hlocks dX2_isUnderWay_53
      · have nc_1 : ¬ (n ≤ i) := fun z => c_1 ((wy_ge ei_i rfl (by first | omega | exact hsN _ _ | exact hdN _ _ | exact Nat.lt_of_le_of_lt (cb_le _ _) (by omega)) (by first | omega | exact hsN _ _ | exact hdN _ _ | exact Nat.lt_of_le_of_lt (cb_le _ _) (by omega))).mpr z)
        exact absurd nc_1 (by omega)
    | succ d ih_d =>
      intro i hd_i xi_i ei_i a_s ha_s ls hl
      refine lv_iload_n hx hb dX2_isUnderWay_4 rfl (lv_at hl 0 rfl) ?_
      refine lv_aload_n hx hb dX2_isUnderWay_5 rfl (lv_at hl 2 rfl) ?_
      refine wy_get (ci := 3) (v := .int (nI n)) (C := RX2) (T := TX2) (N := 15) hx hb hts hinX2 hown hK hP hq.1 rfl 2 (by decide) (hts (.fieldLink RX2 51 "WheelpayModel" "rides" "I") (by decide +kernel)) (fun _ h9 => h9) rfl dX2_isUnderWay_6 ?_
      refine lv_icmp_ge (tgt := 52) hx hb dX2_isUnderWay_9 (by decide) (fun c_2 => ?_) (fun c_2 => ?_)
      · have nc_2 : n ≤ i := (wy_ge ei_i rfl (by first | omega | exact hsN _ _ | exact hdN _ _ | exact Nat.lt_of_le_of_lt (cb_le _ _) (by omega)) (by first | omega | exact hsN _ _ | exact hdN _ _ | exact Nat.lt_of_le_of_lt (cb_le _ _) (by omega))).mp c_2
        exact absurd nc_2 (by omega)
      · have nc_2 : ¬ (n ≤ i) := fun z => c_2 ((wy_ge ei_i rfl (by first | omega | exact hsN _ _ | exact hdN _ _ | exact Nat.lt_of_le_of_lt (cb_le _ _) (by omega)) (by first | omega | exact hsN _ _ | exact hdN _ _ | exact Nat.lt_of_le_of_lt (cb_le _ _) (by omega))).mpr z)
        refine lv_iload_n hx hb dX2_isUnderWay_12 rfl (lv_at hl 1 rfl) ?_
        refine lv_if_ne (tgt := 40) hx hb dX2_isUnderWay_13 (by decide) (fun c_3 => ?_) (fun c_3 => ?_)
        · have bc_3 : (anyB (muB rr p1) i) = true := bI_1 (fun z => c_3 (ha_s.trans z))
          refine lv_iconst (v := 1) hx hb dX2_isUnderWay_40 (by decide) ?_
          refine lv_goto (tgt := 45) hx hb dX2_isUnderWay_41 (by decide) ?_
          refine lv_istore_n (lv' := [(2, .int 1), (3, .int xi_i), (0, .ref om), (1, .int p1)]) hx hb dX2_isUnderWay_45 rfl hl (by decide) rfl (fun ls hl => ?_)
          obtain ⟨x_4, ex_4⟩ : ∃ y : Int32, y = xi_i + 1 := ⟨_, rfl⟩
          have nx_4 : x_4 = nI (i + 1) := by rw [ex_4, ei_i, nI_1]
          refine lv_iinc (v := x_4) (lv' := [(3, .int x_4), (2, .int 1), (0, .ref om), (1, .int p1)]) hx hb dX2_isUnderWay_46 hl (k := 1) rfl (by rw [ex_4]; rfl) (by decide) rfl (fun ls hl => ?_)
          refine lv_goto (tgt := 4) hx hb dX2_isUnderWay_49 (by decide) ?_
          exact ih_d (i + 1) (by omega) _ nx_4 _ (by simp [anyB, muB, bI, bc_3]) ls (lv_sub hl [0, 1, 2, 3] rfl)
        · have bc_3 : (anyB (muB rr p1) i) = false := bI_0 (ha_s.symm.trans c_3)
          refine lv_aload_n hx hb dX2_isUnderWay_16 rfl (lv_at hl 2 rfl) ?_
          refine wy_get (ci := 3) (v := .ref (ma 3)) (C := RX2) (T := TX2) (N := 15) hx hb hts hinX2 hown hK hP hq.1 rfl 6 (by decide) (hts (.fieldLink RX2 26 "WheelpayModel" "isDone" "[Z") (by decide +kernel)) (fun _ h9 => h9) rfl dX2_isUnderWay_17 ?_
          refine lv_iload_n hx hb dX2_isUnderWay_20 rfl (lv_at hl 0 rfl) ?_
          refine wy_zald hx hb hK hP hq.2.2.2.2.1 (i) ei_i (by omega) (by omega) dX2_isUnderWay_21 ?_
          rw [show g3 (i) = bI (rfi (rr i)) from (hm.1 (i) (by omega)).2.2.2.1]
          refine lv_if_ne (tgt := 44) hx hb dX2_isUnderWay_22 (by decide) (fun c_5 => ?_) (fun c_5 => ?_)
          · have bc_5 : (rfi (rr i)) = true := bI_1 (fun z => c_5 (rfl.trans z))
            refine lv_iconst (v := 0) hx hb dX2_isUnderWay_44 (by decide) ?_
            refine lv_istore_n (lv' := [(2, .int 0), (3, .int xi_i), (0, .ref om), (1, .int p1)]) hx hb dX2_isUnderWay_45 rfl hl (by decide) rfl (fun ls hl => ?_)
            obtain ⟨x_6, ex_6⟩ : ∃ y : Int32, y = xi_i + 1 := ⟨_, rfl⟩
            have nx_6 : x_6 = nI (i + 1) := by rw [ex_6, ei_i, nI_1]
            refine lv_iinc (v := x_6) (lv' := [(3, .int x_6), (2, .int 0), (0, .ref om), (1, .int p1)]) hx hb dX2_isUnderWay_46 hl (k := 1) rfl (by rw [ex_6]; rfl) (by decide) rfl (fun ls hl => ?_)
            refine lv_goto (tgt := 4) hx hb dX2_isUnderWay_49 (by decide) ?_
            exact ih_d (i + 1) (by omega) _ nx_6 _ (by simp [anyB, muB, bI, bc_3, bc_5]) ls (lv_sub hl [0, 1, 2, 3] rfl)
          · have bc_5 : (rfi (rr i)) = false := bI_0 (rfl.symm.trans c_5)
            refine lv_iload_n hx hb dX2_isUnderWay_25 rfl (lv_at hl 3 rfl) ?_
            refine lv_iconst (v := (-1)) hx hb dX2_isUnderWay_26 (by decide) ?_
            refine lv_icmp_eq (tgt := 40) hx hb dX2_isUnderWay_27 (by decide) (fun c_7 => ?_) (fun c_7 => ?_)
            · refine lv_iconst (v := 1) hx hb dX2_isUnderWay_40 (by decide) ?_
              refine lv_goto (tgt := 45) hx hb dX2_isUnderWay_41 (by decide) ?_
              refine lv_istore_n (lv' := [(2, .int 1), (3, .int xi_i), (0, .ref om), (1, .int p1)]) hx hb dX2_isUnderWay_45 rfl hl (by decide) rfl (fun ls hl => ?_)
              obtain ⟨x_8, ex_8⟩ : ∃ y : Int32, y = xi_i + 1 := ⟨_, rfl⟩
              have nx_8 : x_8 = nI (i + 1) := by rw [ex_8, ei_i, nI_1]
              refine lv_iinc (v := x_8) (lv' := [(3, .int x_8), (2, .int 1), (0, .ref om), (1, .int p1)]) hx hb dX2_isUnderWay_46 hl (k := 1) rfl (by rw [ex_8]; rfl) (by decide) rfl (fun ls hl => ?_)
              refine lv_goto (tgt := 4) hx hb dX2_isUnderWay_49 (by decide) ?_
              exact ih_d (i + 1) (by omega) _ nx_8 _ (by simp [anyB, muB, bI, bc_3, bc_5, c_7]) ls (lv_sub hl [0, 1, 2, 3] rfl)
            · refine lv_aload_n hx hb dX2_isUnderWay_30 rfl (lv_at hl 2 rfl) ?_
              refine wy_get (ci := 3) (v := .ref (ma 0)) (C := RX2) (T := TX2) (N := 15) hx hb hts hinX2 hown hK hP hq.1 rfl 3 (by decide) (hts (.fieldLink RX2 16 "WheelpayModel" "driver" "[I") (by decide +kernel)) (fun _ h9 => h9) rfl dX2_isUnderWay_31 ?_
              refine lv_iload_n hx hb dX2_isUnderWay_34 rfl (lv_at hl 0 rfl) ?_
              refine wy_iald hx hb hK hP hq.2.1 (i) ei_i (by omega) (by omega) dX2_isUnderWay_35 ?_
              rw [show g0 (i) = rdv (rr i) from (hm.1 (i) (by omega)).1]
              refine lv_iload_n hx hb dX2_isUnderWay_36 rfl (lv_at hl 3 rfl) ?_
              refine lv_icmp_ne (tgt := 44) hx hb dX2_isUnderWay_37 (by decide) (fun c_9 => ?_) (fun c_9 => ?_)
              · refine lv_iconst (v := 0) hx hb dX2_isUnderWay_44 (by decide) ?_
                refine lv_istore_n (lv' := [(2, .int 0), (3, .int xi_i), (0, .ref om), (1, .int p1)]) hx hb dX2_isUnderWay_45 rfl hl (by decide) rfl (fun ls hl => ?_)
                obtain ⟨x_10, ex_10⟩ : ∃ y : Int32, y = xi_i + 1 := ⟨_, rfl⟩
                have nx_10 : x_10 = nI (i + 1) := by rw [ex_10, ei_i, nI_1]
                refine lv_iinc (v := x_10) (lv' := [(3, .int x_10), (2, .int 0), (0, .ref om), (1, .int p1)]) hx hb dX2_isUnderWay_46 hl (k := 1) rfl (by rw [ex_10]; rfl) (by decide) rfl (fun ls hl => ?_)
                refine lv_goto (tgt := 4) hx hb dX2_isUnderWay_49 (by decide) ?_
                exact ih_d (i + 1) (by omega) _ nx_10 _ (by simp [anyB, muB, bI, bc_3, bc_5, c_7, c_9]) ls (lv_sub hl [0, 1, 2, 3] rfl)
              · refine lv_iconst (v := 1) hx hb dX2_isUnderWay_40 (by decide) ?_
                refine lv_goto (tgt := 45) hx hb dX2_isUnderWay_41 (by decide) ?_
                refine lv_istore_n (lv' := [(2, .int 1), (3, .int xi_i), (0, .ref om), (1, .int p1)]) hx hb dX2_isUnderWay_45 rfl hl (by decide) rfl (fun ls hl => ?_)
                obtain ⟨x_11, ex_11⟩ : ∃ y : Int32, y = xi_i + 1 := ⟨_, rfl⟩
                have nx_11 : x_11 = nI (i + 1) := by rw [ex_11, ei_i, nI_1]
                refine lv_iinc (v := x_11) (lv' := [(3, .int x_11), (2, .int 1), (0, .ref om), (1, .int p1)]) hx hb dX2_isUnderWay_46 hl (k := 1) rfl (by rw [ex_11]; rfl) (by decide) rfl (fun ls hl => ?_)
                refine lv_goto (tgt := 4) hx hb dX2_isUnderWay_49 (by decide) ?_
                exact ih_d (i + 1) (by omega) _ nx_11 _ (by simp [anyB, muB, bI, bc_3, bc_5, c_7, c_9]) ls (lv_sub hl [0, 1, 2, 3] rfl)
  exact KK (n) 0 (by omega) _ rfl _ rfl ls (lv_sub hl [0, 1, 2, 3] rfl)
set_option maxHeartbeats 4000000 in
set_option maxRecDepth 100000 in
theorem m_X2_isVoided (l : Launch) {G : wy_G} {L : List Nat} {f : Nat → va_E} {om : Nat} {ma : Nat → Nat} {n : Nat} {km mn : Int32} {wk : Nat} {th : Int32} {po : Nat → Int32} {rr : Nat → wr_V} {g0 g1 g2 g3 g4 g5 g6 g7 g8 g9 : Nat → Int32} {t : Nat} (hq : wm_S G L f om ma n km mn wk th g0 g1 g2 g3 g4 g5 g6 g7 g8 g9) (hm : wm_r po rr g0 g1 g2 g3 g4 g5 g6 g7 g8 g9) (hi : ∀ k, k < 40 → wi t (rr k)) (ht : t ≤ 512) (p1 : Int32) (k : Nat) (hk : k < 40) (e1 : p1 = nI k) : Met l yX2_isVoided wsX2_isVoided ({ frames := 0, cells := 0, slots := 0, locals := 0 } : Room) (va_Pc [.ref om, .int p1] (wy_R G L f)) (vp_Si (fun z => z = bI (voidR (rr k)))) 0 0 (fun _ => False) := by
  refine Met.ofW (cc := cX2_isVoided) (maxL := 5) (ret := (some .boolean)) (by decide) rfl ?_
  intro p e s m args below meth c s₁ B hml hv
  obtain ⟨rfl, hP, hK⟩ := hv
  have hx := B.exec
  have hb := B.bytes
  have hr := B.returns
  have hts := atoms_spec (ws := wsX2_isVoided) B.pre
  have hown : s.vm.findClass RX2 = some m.cls := findClass_of_methodNamed B.named
  have hlocks := B.notSynchronized
  have hinX2 : ∀ w ∈ wsX20, w ∈ wsX2_isVoided := by decide +kernel
  have hn : n ≤ 40 := hq.2.2.2.2.2.2.2.2.2.2.2.2.2.1
  have hwk : wk ≤ 20 := hq.2.2.2.2.2.2.2.2.2.2.2.2.2.2
  have hsN : ∀ v r, stN v r < 2 ^ 31 := fun v r => by unfold stN; split <;> (try split) <;> (try split) <;> decide
  have hdN : ∀ v r, dpN v r < 2 ^ 31 := fun v r => by unfold dpN; split <;> (try split) <;> (try split) <;> decide
  have hl := lv_entry ([.ref om, .int p1]) (n := 5) (Nat.le_of_ble_eq_true rfl)
  rw [lg_entry_eq]
  generalize (lg_sl ([.ref om, .int p1]) ++ List.replicate (5 - (lg_sl ([.ref om, .int p1])).length) Slot.unset).toArray = ls at hl ⊢
  have hl : lv_has ls 5 [(0, .ref om), (1, .int p1)] := hl
  refine lv_iconst (v := 0) hx hb dX2_isVoided_0 (by decide) ?_
  refine lv_istore_n (lv' := [(2, .int 0), (0, .ref om), (1, .int p1)]) hx hb dX2_isVoided_1 rfl hl (by decide) rfl (fun ls hl => ?_)
  refine lv_aload_n hx hb dX2_isVoided_2 rfl (lv_at hl 1 rfl) ?_
  refine wy_get (ci := 3) (v := .ref (ma 3)) (C := RX2) (T := TX2) (N := 15) hx hb hts hinX2 hown hK hP hq.1 rfl 6 (by decide) (hts (.fieldLink RX2 26 "WheelpayModel" "isDone" "[Z") (by decide +kernel)) (fun _ h9 => h9) rfl dX2_isVoided_3 ?_
  refine lv_iload_n hx hb dX2_isVoided_6 rfl (lv_at hl 2 rfl) ?_
  refine wy_zald hx hb hK hP hq.2.2.2.2.1 (k) e1 (by omega) (by omega) dX2_isVoided_7 ?_
  rw [show g3 (k) = bI (rfi (rr k)) from (hm.1 (k) (by omega)).2.2.2.1]
  refine lv_istore_n (lv' := [(3, .int (bI (rfi (rr k)))), (2, .int 0), (0, .ref om), (1, .int p1)]) hx hb dX2_isVoided_8 rfl hl (by decide) rfl (fun ls hl => ?_)
  refine lv_bipush (v := 10) hx hb dX2_isVoided_9 (by decide) ?_
  refine lv_iload_n hx hb dX2_isVoided_11 rfl (lv_at hl 3 rfl) ?_
  refine lv_imul hx hb dX2_isVoided_12 ?_
  refine lv_topi (fun x_1 ex_1 => ?_)
  have nx_1 : x_1 = nI (10 * k) := ex_1.trans ((congr (congrArg (fun u v : Int32 => u * v) (rfl : (10 : Int32) = nI 10)) e1).trans (pk_mul _ _))
  refine lv_istore (lv' := [(4, .int x_1), (3, .int (bI (rfi (rr k)))), (2, .int 0), (0, .ref om), (1, .int p1)]) hx hb dX2_isVoided_13 hl (by decide) rfl (fun ls hl => ?_)
  have KK : ∀ (d i : Nat), i + d = 10 → ∀ (xi_i : Int32), xi_i = nI (10 * k + i) → ∀ (a_n : Int32), a_n = nI (cb (fun r => decide (0 < rch (rr k) r)) i) → ∀ (a_b : Int32), a_b = bI (rfi (rr k) && allv (rr k) i) → ∀ ls : Array Slot, lv_has ls 5 [(4, .int xi_i), (3, .int a_b), (2, .int a_n), (0, .ref om), (1, .int p1)] → W p l e (headSpec wsX2_isVoided ({ frames := 0, cells := 0, slots := 0, locals := 0 } : Room)).room s m ([.ref om, .int p1] : List Value).toArray below meth c s.heap [] 0 0 (MQ below (vp_Si (fun z => z = bI (voidR (rr k)))) ([.ref om, .int p1] : List Value).toArray s 0 0 (fun _ => False)) (F0 m 15 ls []) := by
    intro d
    induction d with
    | zero =>
      intro i hd_i xi_i ei_i a_n ha_n a_b ha_b ls hl
      refine lv_iload hx hb dX2_isVoided_15 (lv_at hl 0 rfl) ?_
      refine lv_bipush (v := 10) hx hb dX2_isVoided_17 (by decide) ?_
      refine lv_iload_n hx hb dX2_isVoided_19 rfl (lv_at hl 4 rfl) ?_
      refine lv_imul hx hb dX2_isVoided_20 ?_
      refine lv_topi (fun x_2 ex_2 => ?_)
      have nx_2 : x_2 = nI (10 * k) := ex_2.trans ((congr (congrArg (fun u v : Int32 => u * v) (rfl : (10 : Int32) = nI 10)) e1).trans (pk_mul _ _))
      refine lv_bipush (v := 10) hx hb dX2_isVoided_21 (by decide) ?_
      refine lv_iadd hx hb dX2_isVoided_23 ?_
      refine lv_topi (fun x_3 ex_3 => ?_)
      have nx_3 : x_3 = nI (10 * k + 10) := ex_3.trans ((congr (congrArg (fun u v : Int32 => u + v) nx_2) (rfl : (10 : Int32) = nI 10)).trans (nI_add _ _))
      refine lv_icmp_ge (tgt := 99) hx hb dX2_isVoided_24 (by decide) (fun c_4 => ?_) (fun c_4 => ?_)
      · have nc_4 : 10 * k + 10 ≤ 10 * k + i := (wy_ge ei_i nx_3 (by first | omega | exact hsN _ _ | exact hdN _ _ | exact Nat.lt_of_le_of_lt (cb_le _ _) (by omega)) (by first | omega | exact hsN _ _ | exact hdN _ _ | exact Nat.lt_of_le_of_lt (cb_le _ _) (by omega))).mp c_4
        obtain rfl : 10 = i := by omega
        refine lv_iload_n hx hb dX2_isVoided_99 rfl (lv_at hl 1 rfl) ?_
        refine lv_if_eq (tgt := 111) hx hb dX2_isVoided_100 (by decide) (fun c_5 => ?_) (fun c_5 => ?_)
        · have bc_5 : (rfi (rr k) && allv (rr k) 10) = false := bI_0 (ha_b.symm.trans c_5)
          refine lv_iconst (v := 0) hx hb dX2_isVoided_111 (by decide) ?_
          exact wy_zR (by
            have hb := bc_5
            rw [voidR, anyc_cb]
            revert hb
            generalize rfi (rr k) = b1
            generalize allv (rr k) 10 = b2
            cases b1 <;> cases b2 <;> simp [bI]) hx hb hr hlocks dX2_isVoided_112
        · have bc_5 : (rfi (rr k) && allv (rr k) 10) = true := bI_1 (fun z => c_5 (ha_b.trans z))
          refine lv_iload_n hx hb dX2_isVoided_103 rfl (lv_at hl 2 rfl) ?_
          refine lv_if_le (tgt := 111) hx hb dX2_isVoided_104 (by decide) (fun c_6 => ?_) (fun c_6 => ?_)
          · refine lv_iconst (v := 0) hx hb dX2_isVoided_111 (by decide) ?_
            exact wy_zR (by
              have hb := bc_5
              have hN : cb (fun r => decide (0 < rch (rr k) r)) 10 = 0 := Nat.le_zero.mp ((wy_le ha_n (rfl : (0 : Int32) = nI 0) (Nat.lt_of_le_of_lt (cb_le _ _) (by decide)) (by decide)).mp c_6)
              rw [voidR, anyc_cb]
              revert hb
              generalize rfi (rr k) = b1
              generalize allv (rr k) 10 = b2
              cases b1 <;> cases b2 <;> simp [bI, hN]) hx hb hr hlocks dX2_isVoided_112
          · refine lv_iconst (v := 1) hx hb dX2_isVoided_107 (by decide) ?_
            refine lv_goto (tgt := 112) hx hb dX2_isVoided_108 (by decide) ?_
            exact wy_zR (by
              have hb := bc_5
              have hN : 0 < cb (fun r => decide (0 < rch (rr k) r)) 10 := Nat.pos_of_ne_zero (fun z => c_6 ((wy_le ha_n (rfl : (0 : Int32) = nI 0) (Nat.lt_of_le_of_lt (cb_le _ _) (by decide)) (by decide)).mpr (Nat.le_of_eq z)))
              rw [voidR, anyc_cb]
              revert hb
              generalize rfi (rr k) = b1
              generalize allv (rr k) 10 = b2
              cases b1 <;> cases b2 <;> simp [bI, hN]) hx hb hr hlocks dX2_isVoided_112
      · have nc_4 : ¬ (10 * k + 10 ≤ 10 * k + i) := fun z => c_4 ((wy_ge ei_i nx_3 (by first | omega | exact hsN _ _ | exact hdN _ _ | exact Nat.lt_of_le_of_lt (cb_le _ _) (by omega)) (by first | omega | exact hsN _ _ | exact hdN _ _ | exact Nat.lt_of_le_of_lt (cb_le _ _) (by omega))).mpr z)
        exact absurd nc_4 (by omega)
    | succ d ih_d =>
      intro i hd_i xi_i ei_i a_n ha_n a_b ha_b ls hl
      refine lv_iload hx hb dX2_isVoided_15 (lv_at hl 0 rfl) ?_
      refine lv_bipush (v := 10) hx hb dX2_isVoided_17 (by decide) ?_
      refine lv_iload_n hx hb dX2_isVoided_19 rfl (lv_at hl 4 rfl) ?_
      refine lv_imul hx hb dX2_isVoided_20 ?_
      refine lv_topi (fun x_7 ex_7 => ?_)
      have nx_7 : x_7 = nI (10 * k) := ex_7.trans ((congr (congrArg (fun u v : Int32 => u * v) (rfl : (10 : Int32) = nI 10)) e1).trans (pk_mul _ _))
      refine lv_bipush (v := 10) hx hb dX2_isVoided_21 (by decide) ?_
      refine lv_iadd hx hb dX2_isVoided_23 ?_
      refine lv_topi (fun x_8 ex_8 => ?_)
      have nx_8 : x_8 = nI (10 * k + 10) := ex_8.trans ((congr (congrArg (fun u v : Int32 => u + v) nx_7) (rfl : (10 : Int32) = nI 10)).trans (nI_add _ _))
      refine lv_icmp_ge (tgt := 99) hx hb dX2_isVoided_24 (by decide) (fun c_9 => ?_) (fun c_9 => ?_)
      · have nc_9 : 10 * k + 10 ≤ 10 * k + i := (wy_ge ei_i nx_8 (by first | omega | exact hsN _ _ | exact hdN _ _ | exact Nat.lt_of_le_of_lt (cb_le _ _) (by omega)) (by first | omega | exact hsN _ _ | exact hdN _ _ | exact Nat.lt_of_le_of_lt (cb_le _ _) (by omega))).mp c_9
        exact absurd nc_9 (by omega)
      · have nc_9 : ¬ (10 * k + 10 ≤ 10 * k + i) := fun z => c_9 ((wy_ge ei_i nx_8 (by first | omega | exact hsN _ _ | exact hdN _ _ | exact Nat.lt_of_le_of_lt (cb_le _ _) (by omega)) (by first | omega | exact hsN _ _ | exact hdN _ _ | exact Nat.lt_of_le_of_lt (cb_le _ _) (by omega))).mpr z)
        refine lv_iload_n hx hb dX2_isVoided_27 rfl (lv_at hl 2 rfl) ?_
        refine lv_aload_n hx hb dX2_isVoided_28 rfl (lv_at hl 3 rfl) ?_
        refine wy_get (ci := 3) (v := .ref (ma 6)) (C := RX2) (T := TX2) (N := 15) hx hb hts hinX2 hown hK hP hq.1 rfl 9 (by decide) (hts (.fieldLink RX2 36 "WheelpayModel" "charge" "[I") (by decide +kernel)) (fun _ h9 => h9) rfl dX2_isVoided_29 ?_
        refine lv_iload hx hb dX2_isVoided_32 (lv_at hl 0 rfl) ?_
        refine wy_iald hx hb hK hP hq.2.2.2.2.2.2.2.1 (10 * k + i) ei_i (by omega) (by omega) dX2_isVoided_34 ?_
        rw [show g6 (10 * k + i) = rch (rr k) i from ((hm.1 k (by omega)).2.2.2.2.2 i (by omega)).2.1]
        refine lv_if_le (tgt := 42) hx hb dX2_isVoided_35 (by decide) (fun c_10 => ?_) (fun c_10 => ?_)
        · refine lv_iconst (v := 0) hx hb dX2_isVoided_42 (by decide) ?_
          refine lv_iadd hx hb dX2_isVoided_43 ?_
          refine lv_topi (fun x_11 ex_11 => ?_)
          have nx_11 : x_11 = nI (cb (fun r => decide (0 < rch (rr k) r)) i + 0) := ex_11.trans ((congr (congrArg (fun u v : Int32 => u + v) ha_n) (rfl : (0 : Int32) = nI 0)).trans (nI_add _ _))
          refine lv_istore_n (lv' := [(2, .int x_11), (4, .int xi_i), (3, .int a_b), (0, .ref om), (1, .int p1)]) hx hb dX2_isVoided_44 rfl hl (by decide) rfl (fun ls hl => ?_)
          refine lv_iload_n hx hb dX2_isVoided_45 rfl (lv_at hl 2 rfl) ?_
          refine lv_if_eq (tgt := 91) hx hb dX2_isVoided_46 (by decide) (fun c_12 => ?_) (fun c_12 => ?_)
          · have bc_12 : (rfi (rr k) && allv (rr k) i) = false := bI_0 (ha_b.symm.trans c_12)
            refine lv_iconst (v := 0) hx hb dX2_isVoided_91 (by decide) ?_
            refine lv_istore_n (lv' := [(3, .int 0), (2, .int x_11), (4, .int xi_i), (0, .ref om), (1, .int p1)]) hx hb dX2_isVoided_92 rfl hl (by decide) rfl (fun ls hl => ?_)
            obtain ⟨x_13, ex_13⟩ : ∃ y : Int32, y = xi_i + 1 := ⟨_, rfl⟩
            have nx_13 : x_13 = nI (10 * k + i + 1) := by rw [ex_13, ei_i, nI_1]
            refine lv_iinc (v := x_13) (lv' := [(4, .int x_13), (3, .int 0), (2, .int x_11), (0, .ref om), (1, .int p1)]) hx hb dX2_isVoided_93 hl (k := 2) rfl (by rw [ex_13]; rfl) (by decide) rfl (fun ls hl => ?_)
            refine lv_goto (tgt := 15) hx hb dX2_isVoided_96 (by decide) ?_
            exact ih_d (i + 1) (by omega) _ nx_13 _ (by rw [show cb (fun r => decide (0 < rch (rr k) r)) (i + 1) = cb (fun r => decide (0 < rch (rr k) r)) i by simp [cb, Int32.not_lt.mpr c_10]]; exact nx_11) _ (by rw [allv, ← Bool.and_assoc, bc_12, Bool.false_and]; rfl) ls (lv_sub hl [0, 1, 2, 3, 4] rfl)
          · have bc_12 : (rfi (rr k) && allv (rr k) i) = true := bI_1 (fun z => c_12 (ha_b.trans z))
            refine lv_aload_n hx hb dX2_isVoided_49 rfl (lv_at hl 3 rfl) ?_
            refine wy_get (ci := 3) (v := .ref (ma 6)) (C := RX2) (T := TX2) (N := 15) hx hb hts hinX2 hown hK hP hq.1 rfl 9 (by decide) (hts (.fieldLink RX2 36 "WheelpayModel" "charge" "[I") (by decide +kernel)) (fun _ h9 => h9) rfl dX2_isVoided_50 ?_
            refine lv_iload hx hb dX2_isVoided_53 (lv_at hl 1 rfl) ?_
            refine wy_iald hx hb hK hP hq.2.2.2.2.2.2.2.1 (10 * k + i) ei_i (by omega) (by omega) dX2_isVoided_55 ?_
            rw [show g6 (10 * k + i) = rch (rr k) i from ((hm.1 k (by omega)).2.2.2.2.2 i (by omega)).2.1]
            refine lv_if_eq (tgt := 87) hx hb dX2_isVoided_56 (by decide) (fun c_14 => ?_) (fun c_14 => ?_)
            · refine lv_iconst (v := 1) hx hb dX2_isVoided_87 (by decide) ?_
              refine lv_goto (tgt := 92) hx hb dX2_isVoided_88 (by decide) ?_
              refine lv_istore_n (lv' := [(3, .int 1), (2, .int x_11), (4, .int xi_i), (0, .ref om), (1, .int p1)]) hx hb dX2_isVoided_92 rfl hl (by decide) rfl (fun ls hl => ?_)
              obtain ⟨x_15, ex_15⟩ : ∃ y : Int32, y = xi_i + 1 := ⟨_, rfl⟩
              have nx_15 : x_15 = nI (10 * k + i + 1) := by rw [ex_15, ei_i, nI_1]
              refine lv_iinc (v := x_15) (lv' := [(4, .int x_15), (3, .int 1), (2, .int x_11), (0, .ref om), (1, .int p1)]) hx hb dX2_isVoided_93 hl (k := 2) rfl (by rw [ex_15]; rfl) (by decide) rfl (fun ls hl => ?_)
              refine lv_goto (tgt := 15) hx hb dX2_isVoided_96 (by decide) ?_
              exact ih_d (i + 1) (by omega) _ nx_15 _ (by rw [show cb (fun r => decide (0 < rch (rr k) r)) (i + 1) = cb (fun r => decide (0 < rch (rr k) r)) i by simp [cb, Int32.not_lt.mpr c_10]]; exact nx_11) _ (by
                simp [allv, bI, Int32.not_lt.mpr c_10, bc_12]) ls (lv_sub hl [0, 1, 2, 3, 4] rfl)
            · refine lv_aload_n hx hb dX2_isVoided_59 rfl (lv_at hl 3 rfl) ?_
              refine wy_get (ci := 3) (v := .ref (ma 7)) (C := RX2) (T := TX2) (N := 15) hx hb hts hinX2 hown hK hP hq.1 rfl 10 (by decide) (hts (.fieldLink RX2 39 "WheelpayModel" "dispute" "[I") (by decide +kernel)) (fun _ h9 => h9) rfl dX2_isVoided_60 ?_
              refine lv_iload hx hb dX2_isVoided_63 (lv_at hl 1 rfl) ?_
              refine wy_iald hx hb hK hP hq.2.2.2.2.2.2.2.2.1 (10 * k + i) ei_i (by omega) (by omega) dX2_isVoided_65 ?_
              rw [show g7 (10 * k + i) = nI (dpN (rr k) i) from ((hm.1 k (by omega)).2.2.2.2.2 i (by omega)).2.2.1]
              refine lv_iconst (v := 3) hx hb dX2_isVoided_66 (by decide) ?_
              refine lv_icmp_ne (tgt := 91) hx hb dX2_isVoided_67 (by decide) (fun c_16 => ?_) (fun c_16 => ?_)
              · have nc_16 : ¬ (dpN (rr k) i = 3) := fun z => c_16 ((wy_eq rfl (rfl : (3 : Int32) = nI 3) (by first | omega | exact hsN _ _ | exact hdN _ _ | exact Nat.lt_of_le_of_lt (cb_le _ _) (by omega)) (by decide)).mpr z)
                refine lv_iconst (v := 0) hx hb dX2_isVoided_91 (by decide) ?_
                refine lv_istore_n (lv' := [(3, .int 0), (2, .int x_11), (4, .int xi_i), (0, .ref om), (1, .int p1)]) hx hb dX2_isVoided_92 rfl hl (by decide) rfl (fun ls hl => ?_)
                obtain ⟨x_17, ex_17⟩ : ∃ y : Int32, y = xi_i + 1 := ⟨_, rfl⟩
                have nx_17 : x_17 = nI (10 * k + i + 1) := by rw [ex_17, ei_i, nI_1]
                refine lv_iinc (v := x_17) (lv' := [(4, .int x_17), (3, .int 0), (2, .int x_11), (0, .ref om), (1, .int p1)]) hx hb dX2_isVoided_93 hl (k := 2) rfl (by rw [ex_17]; rfl) (by decide) rfl (fun ls hl => ?_)
                refine lv_goto (tgt := 15) hx hb dX2_isVoided_96 (by decide) ?_
                exact ih_d (i + 1) (by omega) _ nx_17 _ (by rw [show cb (fun r => decide (0 < rch (rr k) r)) (i + 1) = cb (fun r => decide (0 < rch (rr k) r)) i by simp [cb, Int32.not_lt.mpr c_10]]; exact nx_11) _ (absurd (wi_pos (hi k hk) ht (r := i) (by omega) c_10) c_14) ls (lv_sub hl [0, 1, 2, 3, 4] rfl)
              · have nc_16 : dpN (rr k) i = 3 := (wy_eq rfl (rfl : (3 : Int32) = nI 3) (by first | omega | exact hsN _ _ | exact hdN _ _ | exact Nat.lt_of_le_of_lt (cb_le _ _) (by omega)) (by decide)).mp c_16
                refine lv_aload_n hx hb dX2_isVoided_70 rfl (lv_at hl 3 rfl) ?_
                refine wy_get (ci := 3) (v := .ref (ma 8)) (C := RX2) (T := TX2) (N := 15) hx hb hts hinX2 hown hK hP hq.1 rfl 11 (by decide) (hts (.fieldLink RX2 42 "WheelpayModel" "refund" "[I") (by decide +kernel)) (fun _ h9 => h9) rfl dX2_isVoided_71 ?_
                refine lv_iload hx hb dX2_isVoided_74 (lv_at hl 1 rfl) ?_
                refine wy_iald hx hb hK hP hq.2.2.2.2.2.2.2.2.2.1 (10 * k + i) ei_i (by omega) (by omega) dX2_isVoided_76 ?_
                rw [show g8 (10 * k + i) = rrf (rr k) i from ((hm.1 k (by omega)).2.2.2.2.2 i (by omega)).2.2.2]
                refine lv_aload_n hx hb dX2_isVoided_77 rfl (lv_at hl 3 rfl) ?_
                refine wy_get (ci := 3) (v := .ref (ma 6)) (C := RX2) (T := TX2) (N := 15) hx hb hts hinX2 hown hK hP hq.1 rfl 9 (by decide) (hts (.fieldLink RX2 36 "WheelpayModel" "charge" "[I") (by decide +kernel)) (fun _ h9 => h9) rfl dX2_isVoided_78 ?_
                refine lv_iload hx hb dX2_isVoided_81 (lv_at hl 1 rfl) ?_
                refine wy_iald hx hb hK hP hq.2.2.2.2.2.2.2.1 (10 * k + i) ei_i (by omega) (by omega) dX2_isVoided_83 ?_
                rw [show g6 (10 * k + i) = rch (rr k) i from ((hm.1 k (by omega)).2.2.2.2.2 i (by omega)).2.1]
                refine lv_icmp_ne (tgt := 91) hx hb dX2_isVoided_84 (by decide) (fun c_18 => ?_) (fun c_18 => ?_)
                · refine lv_iconst (v := 0) hx hb dX2_isVoided_91 (by decide) ?_
                  refine lv_istore_n (lv' := [(3, .int 0), (2, .int x_11), (4, .int xi_i), (0, .ref om), (1, .int p1)]) hx hb dX2_isVoided_92 rfl hl (by decide) rfl (fun ls hl => ?_)
                  obtain ⟨x_19, ex_19⟩ : ∃ y : Int32, y = xi_i + 1 := ⟨_, rfl⟩
                  have nx_19 : x_19 = nI (10 * k + i + 1) := by rw [ex_19, ei_i, nI_1]
                  refine lv_iinc (v := x_19) (lv' := [(4, .int x_19), (3, .int 0), (2, .int x_11), (0, .ref om), (1, .int p1)]) hx hb dX2_isVoided_93 hl (k := 2) rfl (by rw [ex_19]; rfl) (by decide) rfl (fun ls hl => ?_)
                  refine lv_goto (tgt := 15) hx hb dX2_isVoided_96 (by decide) ?_
                  exact ih_d (i + 1) (by omega) _ nx_19 _ (by rw [show cb (fun r => decide (0 < rch (rr k) r)) (i + 1) = cb (fun r => decide (0 < rch (rr k) r)) i by simp [cb, Int32.not_lt.mpr c_10]]; exact nx_11) _ (absurd (wi_pos (hi k hk) ht (r := i) (by omega) c_10) c_14) ls (lv_sub hl [0, 1, 2, 3, 4] rfl)
                · refine lv_iconst (v := 1) hx hb dX2_isVoided_87 (by decide) ?_
                  refine lv_goto (tgt := 92) hx hb dX2_isVoided_88 (by decide) ?_
                  refine lv_istore_n (lv' := [(3, .int 1), (2, .int x_11), (4, .int xi_i), (0, .ref om), (1, .int p1)]) hx hb dX2_isVoided_92 rfl hl (by decide) rfl (fun ls hl => ?_)
                  obtain ⟨x_20, ex_20⟩ : ∃ y : Int32, y = xi_i + 1 := ⟨_, rfl⟩
                  have nx_20 : x_20 = nI (10 * k + i + 1) := by rw [ex_20, ei_i, nI_1]
                  refine lv_iinc (v := x_20) (lv' := [(4, .int x_20), (3, .int 1), (2, .int x_11), (0, .ref om), (1, .int p1)]) hx hb dX2_isVoided_93 hl (k := 2) rfl (by rw [ex_20]; rfl) (by decide) rfl (fun ls hl => ?_)
                  refine lv_goto (tgt := 15) hx hb dX2_isVoided_96 (by decide) ?_
                  exact ih_d (i + 1) (by omega) _ nx_20 _ (by rw [show cb (fun r => decide (0 < rch (rr k) r)) (i + 1) = cb (fun r => decide (0 < rch (rr k) r)) i by simp [cb, Int32.not_lt.mpr c_10]]; exact nx_11) _ (absurd (wi_pos (hi k hk) ht (r := i) (by omega) c_10) c_14) ls (lv_sub hl [0, 1, 2, 3, 4] rfl)
        · refine lv_iconst (v := 1) hx hb dX2_isVoided_38 (by decide) ?_
          refine lv_goto (tgt := 43) hx hb dX2_isVoided_39 (by decide) ?_
          refine lv_iadd hx hb dX2_isVoided_43 ?_
          refine lv_topi (fun x_21 ex_21 => ?_)
          have nx_21 : x_21 = nI (cb (fun r => decide (0 < rch (rr k) r)) i + 1) := ex_21.trans ((congr (congrArg (fun u v : Int32 => u + v) ha_n) (rfl : (1 : Int32) = nI 1)).trans (nI_add _ _))
          refine lv_istore_n (lv' := [(2, .int x_21), (4, .int xi_i), (3, .int a_b), (0, .ref om), (1, .int p1)]) hx hb dX2_isVoided_44 rfl hl (by decide) rfl (fun ls hl => ?_)
          refine lv_iload_n hx hb dX2_isVoided_45 rfl (lv_at hl 2 rfl) ?_
          refine lv_if_eq (tgt := 91) hx hb dX2_isVoided_46 (by decide) (fun c_22 => ?_) (fun c_22 => ?_)
          · have bc_22 : (rfi (rr k) && allv (rr k) i) = false := bI_0 (ha_b.symm.trans c_22)
            refine lv_iconst (v := 0) hx hb dX2_isVoided_91 (by decide) ?_
            refine lv_istore_n (lv' := [(3, .int 0), (2, .int x_21), (4, .int xi_i), (0, .ref om), (1, .int p1)]) hx hb dX2_isVoided_92 rfl hl (by decide) rfl (fun ls hl => ?_)
            obtain ⟨x_23, ex_23⟩ : ∃ y : Int32, y = xi_i + 1 := ⟨_, rfl⟩
            have nx_23 : x_23 = nI (10 * k + i + 1) := by rw [ex_23, ei_i, nI_1]
            refine lv_iinc (v := x_23) (lv' := [(4, .int x_23), (3, .int 0), (2, .int x_21), (0, .ref om), (1, .int p1)]) hx hb dX2_isVoided_93 hl (k := 2) rfl (by rw [ex_23]; rfl) (by decide) rfl (fun ls hl => ?_)
            refine lv_goto (tgt := 15) hx hb dX2_isVoided_96 (by decide) ?_
            exact ih_d (i + 1) (by omega) _ nx_23 _ (by rw [show cb (fun r => decide (0 < rch (rr k) r)) (i + 1) = cb (fun r => decide (0 < rch (rr k) r)) i + 1 by simp [cb, Int32.not_le.mp c_10]]; exact nx_21) _ (by rw [allv, ← Bool.and_assoc, bc_22, Bool.false_and]; rfl) ls (lv_sub hl [0, 1, 2, 3, 4] rfl)
          · have bc_22 : (rfi (rr k) && allv (rr k) i) = true := bI_1 (fun z => c_22 (ha_b.trans z))
            refine lv_aload_n hx hb dX2_isVoided_49 rfl (lv_at hl 3 rfl) ?_
            refine wy_get (ci := 3) (v := .ref (ma 6)) (C := RX2) (T := TX2) (N := 15) hx hb hts hinX2 hown hK hP hq.1 rfl 9 (by decide) (hts (.fieldLink RX2 36 "WheelpayModel" "charge" "[I") (by decide +kernel)) (fun _ h9 => h9) rfl dX2_isVoided_50 ?_
            refine lv_iload hx hb dX2_isVoided_53 (lv_at hl 1 rfl) ?_
            refine wy_iald hx hb hK hP hq.2.2.2.2.2.2.2.1 (10 * k + i) ei_i (by omega) (by omega) dX2_isVoided_55 ?_
            rw [show g6 (10 * k + i) = rch (rr k) i from ((hm.1 k (by omega)).2.2.2.2.2 i (by omega)).2.1]
            refine lv_if_eq (tgt := 87) hx hb dX2_isVoided_56 (by decide) (fun c_24 => ?_) (fun c_24 => ?_)
            · refine lv_iconst (v := 1) hx hb dX2_isVoided_87 (by decide) ?_
              refine lv_goto (tgt := 92) hx hb dX2_isVoided_88 (by decide) ?_
              refine lv_istore_n (lv' := [(3, .int 1), (2, .int x_21), (4, .int xi_i), (0, .ref om), (1, .int p1)]) hx hb dX2_isVoided_92 rfl hl (by decide) rfl (fun ls hl => ?_)
              obtain ⟨x_25, ex_25⟩ : ∃ y : Int32, y = xi_i + 1 := ⟨_, rfl⟩
              have nx_25 : x_25 = nI (10 * k + i + 1) := by rw [ex_25, ei_i, nI_1]
              refine lv_iinc (v := x_25) (lv' := [(4, .int x_25), (3, .int 1), (2, .int x_21), (0, .ref om), (1, .int p1)]) hx hb dX2_isVoided_93 hl (k := 2) rfl (by rw [ex_25]; rfl) (by decide) rfl (fun ls hl => ?_)
              refine lv_goto (tgt := 15) hx hb dX2_isVoided_96 (by decide) ?_
              exact ih_d (i + 1) (by omega) _ nx_25 _ (by rw [show cb (fun r => decide (0 < rch (rr k) r)) (i + 1) = cb (fun r => decide (0 < rch (rr k) r)) i + 1 by simp [cb, Int32.not_le.mp c_10]]; exact nx_21) _ (absurd (Int32.not_le.mp c_10) (by rw [c_24]; decide)) ls (lv_sub hl [0, 1, 2, 3, 4] rfl)
            · refine lv_aload_n hx hb dX2_isVoided_59 rfl (lv_at hl 3 rfl) ?_
              refine wy_get (ci := 3) (v := .ref (ma 7)) (C := RX2) (T := TX2) (N := 15) hx hb hts hinX2 hown hK hP hq.1 rfl 10 (by decide) (hts (.fieldLink RX2 39 "WheelpayModel" "dispute" "[I") (by decide +kernel)) (fun _ h9 => h9) rfl dX2_isVoided_60 ?_
              refine lv_iload hx hb dX2_isVoided_63 (lv_at hl 1 rfl) ?_
              refine wy_iald hx hb hK hP hq.2.2.2.2.2.2.2.2.1 (10 * k + i) ei_i (by omega) (by omega) dX2_isVoided_65 ?_
              rw [show g7 (10 * k + i) = nI (dpN (rr k) i) from ((hm.1 k (by omega)).2.2.2.2.2 i (by omega)).2.2.1]
              refine lv_iconst (v := 3) hx hb dX2_isVoided_66 (by decide) ?_
              refine lv_icmp_ne (tgt := 91) hx hb dX2_isVoided_67 (by decide) (fun c_26 => ?_) (fun c_26 => ?_)
              · have nc_26 : ¬ (dpN (rr k) i = 3) := fun z => c_26 ((wy_eq rfl (rfl : (3 : Int32) = nI 3) (by first | omega | exact hsN _ _ | exact hdN _ _ | exact Nat.lt_of_le_of_lt (cb_le _ _) (by omega)) (by decide)).mpr z)
                refine lv_iconst (v := 0) hx hb dX2_isVoided_91 (by decide) ?_
                refine lv_istore_n (lv' := [(3, .int 0), (2, .int x_21), (4, .int xi_i), (0, .ref om), (1, .int p1)]) hx hb dX2_isVoided_92 rfl hl (by decide) rfl (fun ls hl => ?_)
                obtain ⟨x_27, ex_27⟩ : ∃ y : Int32, y = xi_i + 1 := ⟨_, rfl⟩
                have nx_27 : x_27 = nI (10 * k + i + 1) := by rw [ex_27, ei_i, nI_1]
                refine lv_iinc (v := x_27) (lv' := [(4, .int x_27), (3, .int 0), (2, .int x_21), (0, .ref om), (1, .int p1)]) hx hb dX2_isVoided_93 hl (k := 2) rfl (by rw [ex_27]; rfl) (by decide) rfl (fun ls hl => ?_)
                refine lv_goto (tgt := 15) hx hb dX2_isVoided_96 (by decide) ?_
                exact ih_d (i + 1) (by omega) _ nx_27 _ (by rw [show cb (fun r => decide (0 < rch (rr k) r)) (i + 1) = cb (fun r => decide (0 < rch (rr k) r)) i + 1 by simp [cb, Int32.not_le.mp c_10]]; exact nx_21) _ (by
                  have hfa : rfa (rr k) i = false := wi_fa (hi k hk) (by omega) nc_26
                  simp [allv, bI, Int32.not_le.mp c_10, bc_22, hfa]) ls (lv_sub hl [0, 1, 2, 3, 4] rfl)
              · have nc_26 : dpN (rr k) i = 3 := (wy_eq rfl (rfl : (3 : Int32) = nI 3) (by first | omega | exact hsN _ _ | exact hdN _ _ | exact Nat.lt_of_le_of_lt (cb_le _ _) (by omega)) (by decide)).mp c_26
                refine lv_aload_n hx hb dX2_isVoided_70 rfl (lv_at hl 3 rfl) ?_
                refine wy_get (ci := 3) (v := .ref (ma 8)) (C := RX2) (T := TX2) (N := 15) hx hb hts hinX2 hown hK hP hq.1 rfl 11 (by decide) (hts (.fieldLink RX2 42 "WheelpayModel" "refund" "[I") (by decide +kernel)) (fun _ h9 => h9) rfl dX2_isVoided_71 ?_
                refine lv_iload hx hb dX2_isVoided_74 (lv_at hl 1 rfl) ?_
                refine wy_iald hx hb hK hP hq.2.2.2.2.2.2.2.2.2.1 (10 * k + i) ei_i (by omega) (by omega) dX2_isVoided_76 ?_
                rw [show g8 (10 * k + i) = rrf (rr k) i from ((hm.1 k (by omega)).2.2.2.2.2 i (by omega)).2.2.2]
                refine lv_aload_n hx hb dX2_isVoided_77 rfl (lv_at hl 3 rfl) ?_
                refine wy_get (ci := 3) (v := .ref (ma 6)) (C := RX2) (T := TX2) (N := 15) hx hb hts hinX2 hown hK hP hq.1 rfl 9 (by decide) (hts (.fieldLink RX2 36 "WheelpayModel" "charge" "[I") (by decide +kernel)) (fun _ h9 => h9) rfl dX2_isVoided_78 ?_
                refine lv_iload hx hb dX2_isVoided_81 (lv_at hl 1 rfl) ?_
                refine wy_iald hx hb hK hP hq.2.2.2.2.2.2.2.1 (10 * k + i) ei_i (by omega) (by omega) dX2_isVoided_83 ?_
                rw [show g6 (10 * k + i) = rch (rr k) i from ((hm.1 k (by omega)).2.2.2.2.2 i (by omega)).2.1]
                refine lv_icmp_ne (tgt := 91) hx hb dX2_isVoided_84 (by decide) (fun c_28 => ?_) (fun c_28 => ?_)
                · refine lv_iconst (v := 0) hx hb dX2_isVoided_91 (by decide) ?_
                  refine lv_istore_n (lv' := [(3, .int 0), (2, .int x_21), (4, .int xi_i), (0, .ref om), (1, .int p1)]) hx hb dX2_isVoided_92 rfl hl (by decide) rfl (fun ls hl => ?_)
                  obtain ⟨x_29, ex_29⟩ : ∃ y : Int32, y = xi_i + 1 := ⟨_, rfl⟩
                  have nx_29 : x_29 = nI (10 * k + i + 1) := by rw [ex_29, ei_i, nI_1]
                  refine lv_iinc (v := x_29) (lv' := [(4, .int x_29), (3, .int 0), (2, .int x_21), (0, .ref om), (1, .int p1)]) hx hb dX2_isVoided_93 hl (k := 2) rfl (by rw [ex_29]; rfl) (by decide) rfl (fun ls hl => ?_)
                  refine lv_goto (tgt := 15) hx hb dX2_isVoided_96 (by decide) ?_
                  exact ih_d (i + 1) (by omega) _ nx_29 _ (by rw [show cb (fun r => decide (0 < rch (rr k) r)) (i + 1) = cb (fun r => decide (0 < rch (rr k) r)) i + 1 by simp [cb, Int32.not_le.mp c_10]]; exact nx_21) _ (by
                    have hfa : rfa (rr k) i = true := dpN3 nc_26
                    simp [allv, bI, Int32.not_le.mp c_10, bc_22, hfa, c_28]) ls (lv_sub hl [0, 1, 2, 3, 4] rfl)
                · refine lv_iconst (v := 1) hx hb dX2_isVoided_87 (by decide) ?_
                  refine lv_goto (tgt := 92) hx hb dX2_isVoided_88 (by decide) ?_
                  refine lv_istore_n (lv' := [(3, .int 1), (2, .int x_21), (4, .int xi_i), (0, .ref om), (1, .int p1)]) hx hb dX2_isVoided_92 rfl hl (by decide) rfl (fun ls hl => ?_)
                  obtain ⟨x_30, ex_30⟩ : ∃ y : Int32, y = xi_i + 1 := ⟨_, rfl⟩
                  have nx_30 : x_30 = nI (10 * k + i + 1) := by rw [ex_30, ei_i, nI_1]
                  refine lv_iinc (v := x_30) (lv' := [(4, .int x_30), (3, .int 1), (2, .int x_21), (0, .ref om), (1, .int p1)]) hx hb dX2_isVoided_93 hl (k := 2) rfl (by rw [ex_30]; rfl) (by decide) rfl (fun ls hl => ?_)
                  refine lv_goto (tgt := 15) hx hb dX2_isVoided_96 (by decide) ?_
                  exact ih_d (i + 1) (by omega) _ nx_30 _ (by rw [show cb (fun r => decide (0 < rch (rr k) r)) (i + 1) = cb (fun r => decide (0 < rch (rr k) r)) i + 1 by simp [cb, Int32.not_le.mp c_10]]; exact nx_21) _ (by
                    have hfa : rfa (rr k) i = true := dpN3 nc_26
                    simp [allv, bI, Int32.not_le.mp c_10, bc_22, hfa, c_28]) ls (lv_sub hl [0, 1, 2, 3, 4] rfl)
  exact KK (10) 0 (by omega) _ (by first | rfl | assumption) _ rfl _ (by simp [allv]) ls (lv_sub hl [0, 1, 2, 3, 4] rfl)
set_option maxHeartbeats 4000000 in
set_option maxRecDepth 100000 in
theorem m_X2_earns (l : Launch) {G : wy_G} {L : List Nat} {f : Nat → va_E} {om : Nat} {ma : Nat → Nat} {n : Nat} {km mn : Int32} {wk : Nat} {th : Int32} {po : Nat → Int32} {rr : Nat → wr_V} {g0 g1 g2 g3 g4 g5 g6 g7 g8 g9 : Nat → Int32} {t : Nat} (hq : wm_S G L f om ma n km mn wk th g0 g1 g2 g3 g4 g5 g6 g7 g8 g9) (hm : wm_r po rr g0 g1 g2 g3 g4 g5 g6 g7 g8 g9) (hi : ∀ k, k < 40 → wi t (rr k)) (ht : t ≤ 512) (p1 p2 : Int32) : Met l yX2_earns wsX2_earns ({ frames := 1, cells := 0, slots := 0, locals := 23 } : Room) (va_Pc [.ref om, .int p1, .int p2] (wy_R G L f)) (vp_Si (fun z => z = earnS rr n p1 p2)) 0 0 (fun _ => False) := by
  refine Met.ofW (cc := cX2_earns) (maxL := 6) (ret := (some .int)) (by decide) rfl ?_
  intro p e s m args below meth c s₁ B hml hv
  obtain ⟨rfl, hP, hK⟩ := hv
  have hx := B.exec
  have hb := B.bytes
  have hr := B.returns
  have hts := atoms_spec (ws := wsX2_earns) B.pre
  have hown : s.vm.findClass RX2 = some m.cls := findClass_of_methodNamed B.named
  have hlocks := B.notSynchronized
  have hinX2 : ∀ w ∈ wsX20, w ∈ wsX2_earns := by decide +kernel
  have hn : n ≤ 40 := hq.2.2.2.2.2.2.2.2.2.2.2.2.2.1
  have hwk : wk ≤ 20 := hq.2.2.2.2.2.2.2.2.2.2.2.2.2.2
  have hsN : ∀ v r, stN v r < 2 ^ 31 := fun v r => by unfold stN; split <;> (try split) <;> (try split) <;> decide
  have hdN : ∀ v r, dpN v r < 2 ^ 31 := fun v r => by unfold dpN; split <;> (try split) <;> (try split) <;> decide
  have hl := lv_entry ([.ref om, .int p1, .int p2]) (n := 6) (Nat.le_of_ble_eq_true rfl)
  rw [lg_entry_eq]
  generalize (lg_sl ([.ref om, .int p1, .int p2]) ++ List.replicate (6 - (lg_sl ([.ref om, .int p1, .int p2])).length) Slot.unset).toArray = ls at hl ⊢
  have hl : lv_has ls 6 [(0, .ref om), (1, .int p1), (2, .int p2)] := hl
  refine lv_iconst (v := 0) hx hb dX2_earns_0 (by decide) ?_
  refine lv_istore_n (lv' := [(3, .int 0), (0, .ref om), (1, .int p1), (2, .int p2)]) hx hb dX2_earns_1 rfl hl (by decide) rfl (fun ls hl => ?_)
  refine lv_iconst (v := 0) hx hb dX2_earns_2 (by decide) ?_
  refine lv_istore (lv' := [(4, .int 0), (3, .int 0), (0, .ref om), (1, .int p1), (2, .int p2)]) hx hb dX2_earns_3 hl (by decide) rfl (fun ls hl => ?_)
  have KK : ∀ (d i : Nat), i + d = 10 * n → ∀ (xi_i : Int32), xi_i = nI (i) → ∀ (a_s : Int32), a_s = bx_sum (fun i => if fby rr p1 p2 (i / 10) then fdr (rr (i / 10)) (i % 10) else 0) i → ∀ ls : Array Slot, lv_has ls 6 [(4, .int xi_i), (3, .int a_s), (0, .ref om), (1, .int p1), (2, .int p2)] → W p l e (headSpec wsX2_earns ({ frames := 1, cells := 0, slots := 0, locals := 23 } : Room)).room s m ([.ref om, .int p1, .int p2] : List Value).toArray below meth c s.heap [] 0 0 (MQ below (vp_Si (fun z => z = earnS rr n p1 p2)) ([.ref om, .int p1, .int p2] : List Value).toArray s 0 0 (fun _ => False)) (F0 m 5 ls []) := by
    intro d
    induction d with
    | zero =>
      intro i hd_i xi_i ei_i a_s ha_s ls hl
      refine lv_iload hx hb dX2_earns_5 (lv_at hl 0 rfl) ?_
      refine lv_bipush (v := 10) hx hb dX2_earns_7 (by decide) ?_
      refine lv_aload_n hx hb dX2_earns_9 rfl (lv_at hl 2 rfl) ?_
      refine wy_get (ci := 3) (v := .int (nI n)) (C := RX2) (T := TX2) (N := 15) hx hb hts hinX2 hown hK hP hq.1 rfl 2 (by decide) (hts (.fieldLink RX2 51 "WheelpayModel" "rides" "I") (by decide +kernel)) (fun _ h9 => h9) rfl dX2_earns_10 ?_
      refine lv_imul hx hb dX2_earns_13 ?_
      refine lv_topi (fun x_1 ex_1 => ?_)
      have nx_1 : x_1 = nI (10 * n) := ex_1.trans ((congr (congrArg (fun u v : Int32 => u * v) (rfl : (10 : Int32) = nI 10)) rfl).trans (pk_mul _ _))
      refine lv_icmp_ge (tgt := 79) hx hb dX2_earns_14 (by decide) (fun c_2 => ?_) (fun c_2 => ?_)
      · have nc_2 : 10 * n ≤ i := (wy_ge ei_i nx_1 (by first | omega | exact hsN _ _ | exact hdN _ _ | exact Nat.lt_of_le_of_lt (cb_le _ _) (by omega)) (by first | omega | exact hsN _ _ | exact hdN _ _ | exact Nat.lt_of_le_of_lt (cb_le _ _) (by omega))).mp c_2
        obtain rfl : 10 * n = i := by omega
        refine lv_iload_n hx hb dX2_earns_79 rfl (lv_at hl 1 rfl) ?_
        exact wy_iR (by rw [ha_s]; exact earn_flat rr n p1 p2) hx hb hr hlocks dX2_earns_80
      · have nc_2 : ¬ (10 * n ≤ i) := fun z => c_2 ((wy_ge ei_i nx_1 (by first | omega | exact hsN _ _ | exact hdN _ _ | exact Nat.lt_of_le_of_lt (cb_le _ _) (by omega)) (by first | omega | exact hsN _ _ | exact hdN _ _ | exact Nat.lt_of_le_of_lt (cb_le _ _) (by omega))).mpr z)
        exact absurd nc_2 (by omega)
    | succ d ih_d =>
      intro i hd_i xi_i ei_i a_s ha_s ls hl
      refine lv_iload hx hb dX2_earns_5 (lv_at hl 0 rfl) ?_
      refine lv_bipush (v := 10) hx hb dX2_earns_7 (by decide) ?_
      refine lv_aload_n hx hb dX2_earns_9 rfl (lv_at hl 2 rfl) ?_
      refine wy_get (ci := 3) (v := .int (nI n)) (C := RX2) (T := TX2) (N := 15) hx hb hts hinX2 hown hK hP hq.1 rfl 2 (by decide) (hts (.fieldLink RX2 51 "WheelpayModel" "rides" "I") (by decide +kernel)) (fun _ h9 => h9) rfl dX2_earns_10 ?_
      refine lv_imul hx hb dX2_earns_13 ?_
      refine lv_topi (fun x_3 ex_3 => ?_)
      have nx_3 : x_3 = nI (10 * n) := ex_3.trans ((congr (congrArg (fun u v : Int32 => u * v) (rfl : (10 : Int32) = nI 10)) rfl).trans (pk_mul _ _))
      refine lv_icmp_ge (tgt := 79) hx hb dX2_earns_14 (by decide) (fun c_4 => ?_) (fun c_4 => ?_)
      · have nc_4 : 10 * n ≤ i := (wy_ge ei_i nx_3 (by first | omega | exact hsN _ _ | exact hdN _ _ | exact Nat.lt_of_le_of_lt (cb_le _ _) (by omega)) (by first | omega | exact hsN _ _ | exact hdN _ _ | exact Nat.lt_of_le_of_lt (cb_le _ _) (by omega))).mp c_4
        exact absurd nc_4 (by omega)
      · have nc_4 : ¬ (10 * n ≤ i) := fun z => c_4 ((wy_ge ei_i nx_3 (by first | omega | exact hsN _ _ | exact hdN _ _ | exact Nat.lt_of_le_of_lt (cb_le _ _) (by omega)) (by first | omega | exact hsN _ _ | exact hdN _ _ | exact Nat.lt_of_le_of_lt (cb_le _ _) (by omega))).mpr z)
        refine lv_aload_n hx hb dX2_earns_17 rfl (lv_at hl 2 rfl) ?_
        refine lv_iload hx hb dX2_earns_18 (lv_at hl 0 rfl) ?_
        refine lv_bipush (v := 10) hx hb dX2_earns_20 (by decide) ?_
        refine lv_idiv hx hb dX2_earns_22 (by decide) ?_
        refine lv_topi (fun x_5 ex_5 => ?_)
        have nx_5 : x_5 = nI (i / 10) := ex_5.trans ((congr (congrArg (fun u v : Int32 => u / v) ei_i) (rfl : (10 : Int32) = nI 10)).trans (pk_div (by omega) (by decide) (by decide)))
        refine lv_iload_n hx hb dX2_earns_23 rfl (lv_at hl 3 rfl) ?_
        refine lv_iload_n hx hb dX2_earns_24 rfl (lv_at hl 4 rfl) ?_
        refine vp_callSi (W.runV (As := [.int x_5, .int p1, .int p2]) (rest := []) ⟨hx, hb, hml, hown, hts⟩ (m_X2_belongs l hq hm hi ht (x_5) (i / 10) (by omega) nx_5 (p1) (p2)) (cwV 3 hts gX2_earns_X2_belongs rfl rfl rfl (by decide +kernel) ⟨Nat.le_of_ble_eq_true rfl, Nat.le_of_ble_eq_true rfl⟩) (wy_pVR hK hP hq.1 rfl) rfl rfl hl.1 rfl (lv_room (Nat.le_of_ble_eq_true rfl)) dX2_earns_25 ⟨Nat.le_of_ble_eq_true rfl, Nat.le_of_ble_eq_true rfl⟩) (fun r_6 er_6 => ?_)
        refine lv_if_eq (tgt := 73) hx hb dX2_earns_28 (by decide) (fun c_7 => ?_) (fun c_7 => ?_)
        · have bc_7 : (fby rr p1 p2 (i / 10)) = false := bI_0 (er_6.symm.trans c_7)
          obtain ⟨x_8, ex_8⟩ : ∃ y : Int32, y = xi_i + 1 := ⟨_, rfl⟩
          have nx_8 : x_8 = nI (i + 1) := by rw [ex_8, ei_i, nI_1]
          refine lv_iinc (v := x_8) (lv' := [(4, .int x_8), (3, .int a_s), (0, .ref om), (1, .int p1), (2, .int p2)]) hx hb dX2_earns_73 hl (k := 0) rfl (by rw [ex_8]; rfl) (by decide) rfl (fun ls hl => ?_)
          refine lv_goto (tgt := 5) hx hb dX2_earns_76 (by decide) ?_
          exact ih_d (i + 1) (by omega) _ nx_8 _ (by
            simp [ex_3, ex_5, ex_8, ha_s, bx_sum, fdr, bc_7]) ls (lv_sub hl [0, 1, 2, 3, 4] rfl)
        · have bc_7 : (fby rr p1 p2 (i / 10)) = true := bI_1 (fun z => c_7 (er_6.trans z))
          refine lv_aload_n hx hb dX2_earns_31 rfl (lv_at hl 2 rfl) ?_
          refine wy_get (ci := 3) (v := .ref (ma 6)) (C := RX2) (T := TX2) (N := 15) hx hb hts hinX2 hown hK hP hq.1 rfl 9 (by decide) (hts (.fieldLink RX2 36 "WheelpayModel" "charge" "[I") (by decide +kernel)) (fun _ h9 => h9) rfl dX2_earns_32 ?_
          refine lv_iload hx hb dX2_earns_35 (lv_at hl 0 rfl) ?_
          refine wy_iald hx hb hK hP hq.2.2.2.2.2.2.2.1 (i) ei_i (by omega) (by omega) dX2_earns_37 ?_
          rw [show g6 (i) = rch (rr (i / 10)) (i % 10) from (wm_at6 hm (by omega))]
          refine lv_aload_n hx hb dX2_earns_38 rfl (lv_at hl 2 rfl) ?_
          refine wy_get (ci := 3) (v := .ref (ma 7)) (C := RX2) (T := TX2) (N := 15) hx hb hts hinX2 hown hK hP hq.1 rfl 10 (by decide) (hts (.fieldLink RX2 39 "WheelpayModel" "dispute" "[I") (by decide +kernel)) (fun _ h9 => h9) rfl dX2_earns_39 ?_
          refine lv_iload hx hb dX2_earns_42 (lv_at hl 0 rfl) ?_
          refine wy_iald hx hb hK hP hq.2.2.2.2.2.2.2.2.1 (i) ei_i (by omega) (by omega) dX2_earns_44 ?_
          rw [show g7 (i) = nI (dpN (rr (i / 10)) (i % 10)) from (wm_at7 hm (by omega))]
          refine lv_iconst (v := 3) hx hb dX2_earns_45 (by decide) ?_
          refine lv_icmp_ne (tgt := 59) hx hb dX2_earns_46 (by decide) (fun c_9 => ?_) (fun c_9 => ?_)
          · have nc_9 : ¬ (dpN (rr (i / 10)) (i % 10) = 3) := fun z => c_9 ((wy_eq rfl (rfl : (3 : Int32) = nI 3) (by first | omega | exact hsN _ _ | exact hdN _ _ | exact Nat.lt_of_le_of_lt (cb_le _ _) (by omega)) (by decide)).mpr z)
            refine lv_iconst (v := 0) hx hb dX2_earns_59 (by decide) ?_
            refine lv_isub hx hb dX2_earns_60 ?_
            refine lv_topi (fun x_10 ex_10 => ?_)
            refine lv_istore (lv' := [(5, .int x_10), (4, .int xi_i), (3, .int a_s), (0, .ref om), (1, .int p1), (2, .int p2)]) hx hb dX2_earns_61 hl (by decide) rfl (fun ls hl => ?_)
            refine lv_iload_n hx hb dX2_earns_63 rfl (lv_at hl 2 rfl) ?_
            refine lv_iload hx hb dX2_earns_64 (lv_at hl 0 rfl) ?_
            refine lv_iload hx hb dX2_earns_66 (lv_at hl 0 rfl) ?_
            refine lv_iconst (v := 5) hx hb dX2_earns_68 (by decide) ?_
            refine lv_idiv hx hb dX2_earns_69 (by decide) ?_
            refine lv_topi (fun x_11 ex_11 => ?_)
            refine lv_isub hx hb dX2_earns_70 ?_
            refine lv_topi (fun x_12 ex_12 => ?_)
            refine lv_iadd hx hb dX2_earns_71 ?_
            refine lv_topi (fun x_13 ex_13 => ?_)
            refine lv_istore_n (lv' := [(3, .int x_13), (5, .int x_10), (4, .int xi_i), (0, .ref om), (1, .int p1), (2, .int p2)]) hx hb dX2_earns_72 rfl hl (by decide) rfl (fun ls hl => ?_)
            obtain ⟨x_14, ex_14⟩ : ∃ y : Int32, y = xi_i + 1 := ⟨_, rfl⟩
            have nx_14 : x_14 = nI (i + 1) := by rw [ex_14, ei_i, nI_1]
            refine lv_iinc (v := x_14) (lv' := [(4, .int x_14), (3, .int x_13), (5, .int x_10), (0, .ref om), (1, .int p1), (2, .int p2)]) hx hb dX2_earns_73 hl (k := 2) rfl (by rw [ex_14]; rfl) (by decide) rfl (fun ls hl => ?_)
            refine lv_goto (tgt := 5) hx hb dX2_earns_76 (by decide) ?_
            exact ih_d (i + 1) (by omega) _ nx_14 _ (by
              have hfa : rfa (rr (i / 10)) (i % 10) = false := wi_fa (hi _ (by omega)) (by omega) nc_9
              simp [ex_3, ex_5, ex_10, ex_11, ex_12, ex_13, ex_14, ha_s, bx_sum, fdr, bc_7, hfa]) ls (lv_sub hl [0, 1, 3, 4, 5] rfl)
          · have nc_9 : dpN (rr (i / 10)) (i % 10) = 3 := (wy_eq rfl (rfl : (3 : Int32) = nI 3) (by first | omega | exact hsN _ _ | exact hdN _ _ | exact Nat.lt_of_le_of_lt (cb_le _ _) (by omega)) (by decide)).mp c_9
            refine lv_aload_n hx hb dX2_earns_49 rfl (lv_at hl 2 rfl) ?_
            refine wy_get (ci := 3) (v := .ref (ma 8)) (C := RX2) (T := TX2) (N := 15) hx hb hts hinX2 hown hK hP hq.1 rfl 11 (by decide) (hts (.fieldLink RX2 42 "WheelpayModel" "refund" "[I") (by decide +kernel)) (fun _ h9 => h9) rfl dX2_earns_50 ?_
            refine lv_iload hx hb dX2_earns_53 (lv_at hl 0 rfl) ?_
            refine wy_iald hx hb hK hP hq.2.2.2.2.2.2.2.2.2.1 (i) ei_i (by omega) (by omega) dX2_earns_55 ?_
            rw [show g8 (i) = rrf (rr (i / 10)) (i % 10) from (wm_at8 hm (by omega))]
            refine lv_goto (tgt := 60) hx hb dX2_earns_56 (by decide) ?_
            refine lv_isub hx hb dX2_earns_60 ?_
            refine lv_topi (fun x_15 ex_15 => ?_)
            refine lv_istore (lv' := [(5, .int x_15), (4, .int xi_i), (3, .int a_s), (0, .ref om), (1, .int p1), (2, .int p2)]) hx hb dX2_earns_61 hl (by decide) rfl (fun ls hl => ?_)
            refine lv_iload_n hx hb dX2_earns_63 rfl (lv_at hl 2 rfl) ?_
            refine lv_iload hx hb dX2_earns_64 (lv_at hl 0 rfl) ?_
            refine lv_iload hx hb dX2_earns_66 (lv_at hl 0 rfl) ?_
            refine lv_iconst (v := 5) hx hb dX2_earns_68 (by decide) ?_
            refine lv_idiv hx hb dX2_earns_69 (by decide) ?_
            refine lv_topi (fun x_16 ex_16 => ?_)
            refine lv_isub hx hb dX2_earns_70 ?_
            refine lv_topi (fun x_17 ex_17 => ?_)
            refine lv_iadd hx hb dX2_earns_71 ?_
            refine lv_topi (fun x_18 ex_18 => ?_)
            refine lv_istore_n (lv' := [(3, .int x_18), (5, .int x_15), (4, .int xi_i), (0, .ref om), (1, .int p1), (2, .int p2)]) hx hb dX2_earns_72 rfl hl (by decide) rfl (fun ls hl => ?_)
            obtain ⟨x_19, ex_19⟩ : ∃ y : Int32, y = xi_i + 1 := ⟨_, rfl⟩
            have nx_19 : x_19 = nI (i + 1) := by rw [ex_19, ei_i, nI_1]
            refine lv_iinc (v := x_19) (lv' := [(4, .int x_19), (3, .int x_18), (5, .int x_15), (0, .ref om), (1, .int p1), (2, .int p2)]) hx hb dX2_earns_73 hl (k := 2) rfl (by rw [ex_19]; rfl) (by decide) rfl (fun ls hl => ?_)
            refine lv_goto (tgt := 5) hx hb dX2_earns_76 (by decide) ?_
            exact ih_d (i + 1) (by omega) _ nx_19 _ (by
              have hfa : rfa (rr (i / 10)) (i % 10) = true := dpN3 nc_9
              simp [ex_3, ex_5, ex_15, ex_16, ex_17, ex_18, ex_19, ha_s, bx_sum, fdr, bc_7, hfa]) ls (lv_sub hl [0, 1, 3, 4, 5] rfl)
  exact KK (10 * n) 0 (by omega) _ rfl _ rfl ls (lv_sub hl [0, 1, 2, 3, 4] rfl)
set_option maxHeartbeats 4000000 in
set_option maxRecDepth 100000 in
theorem m_X2_topsUp (l : Launch) {G : wy_G} {L : List Nat} {f : Nat → va_E} {om : Nat} {ma : Nat → Nat} {n : Nat} {km mn : Int32} {wk : Nat} {th : Int32} {po : Nat → Int32} {rr : Nat → wr_V} {g0 g1 g2 g3 g4 g5 g6 g7 g8 g9 : Nat → Int32} {t : Nat} (hq : wm_S G L f om ma n km mn wk th g0 g1 g2 g3 g4 g5 g6 g7 g8 g9) (hm : wm_r po rr g0 g1 g2 g3 g4 g5 g6 g7 g8 g9) (hi : ∀ k, k < 40 → wi t (rr k)) (ht : t ≤ 512) (p1 p2 : Int32) : Met l yX2_topsUp wsX2_topsUp ({ frames := 2, cells := 0, slots := 0, locals := 48 } : Room) (va_Pc [.ref om, .int p1, .int p2] (wy_R G L f)) (vp_Si (fun z => z = topS rr n p1 p2)) 0 0 (fun _ => False) := by
  refine Met.ofW (cc := cX2_topsUp) (maxL := 5) (ret := (some .int)) (by decide) rfl ?_
  intro p e s m args below meth c s₁ B hml hv
  obtain ⟨rfl, hP, hK⟩ := hv
  have hx := B.exec
  have hb := B.bytes
  have hr := B.returns
  have hts := atoms_spec (ws := wsX2_topsUp) B.pre
  have hown : s.vm.findClass RX2 = some m.cls := findClass_of_methodNamed B.named
  have hlocks := B.notSynchronized
  have hinX2 : ∀ w ∈ wsX20, w ∈ wsX2_topsUp := by decide +kernel
  have hn : n ≤ 40 := hq.2.2.2.2.2.2.2.2.2.2.2.2.2.1
  have hwk : wk ≤ 20 := hq.2.2.2.2.2.2.2.2.2.2.2.2.2.2
  have hsN : ∀ v r, stN v r < 2 ^ 31 := fun v r => by unfold stN; split <;> (try split) <;> (try split) <;> decide
  have hdN : ∀ v r, dpN v r < 2 ^ 31 := fun v r => by unfold dpN; split <;> (try split) <;> (try split) <;> decide
  have hl := lv_entry ([.ref om, .int p1, .int p2]) (n := 5) (Nat.le_of_ble_eq_true rfl)
  rw [lg_entry_eq]
  generalize (lg_sl ([.ref om, .int p1, .int p2]) ++ List.replicate (5 - (lg_sl ([.ref om, .int p1, .int p2])).length) Slot.unset).toArray = ls at hl ⊢
  have hl : lv_has ls 5 [(0, .ref om), (1, .int p1), (2, .int p2)] := hl
  refine lv_iconst (v := 0) hx hb dX2_topsUp_0 (by decide) ?_
  refine lv_istore_n (lv' := [(3, .int 0), (0, .ref om), (1, .int p1), (2, .int p2)]) hx hb dX2_topsUp_1 rfl hl (by decide) rfl (fun ls hl => ?_)
  refine lv_iconst (v := 0) hx hb dX2_topsUp_2 (by decide) ?_
  refine lv_istore (lv' := [(4, .int 0), (3, .int 0), (0, .ref om), (1, .int p1), (2, .int p2)]) hx hb dX2_topsUp_3 hl (by decide) rfl (fun ls hl => ?_)
  have KK : ∀ (d i : Nat), i + d = n → ∀ (xi_i : Int32), xi_i = nI (i) → ∀ (a_s : Int32), a_s = minS rr i p1 p2 → ∀ ls : Array Slot, lv_has ls 5 [(4, .int xi_i), (3, .int a_s), (0, .ref om), (1, .int p1), (2, .int p2)] → W p l e (headSpec wsX2_topsUp ({ frames := 2, cells := 0, slots := 0, locals := 48 } : Room)).room s m ([.ref om, .int p1, .int p2] : List Value).toArray below meth c s.heap [] 0 0 (MQ below (vp_Si (fun z => z = topS rr n p1 p2)) ([.ref om, .int p1, .int p2] : List Value).toArray s 0 0 (fun _ => False)) (F0 m 5 ls []) := by
    intro d
    induction d with
    | zero =>
      intro i hd_i xi_i ei_i a_s ha_s ls hl
      refine lv_iload hx hb dX2_topsUp_5 (lv_at hl 0 rfl) ?_
      refine lv_aload_n hx hb dX2_topsUp_7 rfl (lv_at hl 2 rfl) ?_
      refine wy_get (ci := 3) (v := .int (nI n)) (C := RX2) (T := TX2) (N := 15) hx hb hts hinX2 hown hK hP hq.1 rfl 2 (by decide) (hts (.fieldLink RX2 51 "WheelpayModel" "rides" "I") (by decide +kernel)) (fun _ h9 => h9) rfl dX2_topsUp_8 ?_
      refine lv_icmp_ge (tgt := 54) hx hb dX2_topsUp_11 (by decide) (fun c_1 => ?_) (fun c_1 => ?_)
      · have nc_1 : n ≤ i := (wy_ge ei_i rfl (by first | omega | exact hsN _ _ | exact hdN _ _ | exact Nat.lt_of_le_of_lt (cb_le _ _) (by omega)) (by first | omega | exact hsN _ _ | exact hdN _ _ | exact Nat.lt_of_le_of_lt (cb_le _ _) (by omega))).mp c_1
        obtain rfl : n = i := by omega
        refine lv_sipush (v := 1500) hx hb dX2_topsUp_54 (by decide) ?_
        refine lv_iload_n hx hb dX2_topsUp_57 rfl (lv_at hl 1 rfl) ?_
        refine lv_imul hx hb dX2_topsUp_58 ?_
        refine lv_topi (fun x_2 ex_2 => ?_)
        refine lv_bipush (v := 60) hx hb dX2_topsUp_59 (by decide) ?_
        refine lv_idiv hx hb dX2_topsUp_61 (by decide) ?_
        refine lv_topi (fun x_3 ex_3 => ?_)
        refine lv_aload_n hx hb dX2_topsUp_62 rfl (lv_at hl 2 rfl) ?_
        refine lv_iload_n hx hb dX2_topsUp_63 rfl (lv_at hl 3 rfl) ?_
        refine lv_iload_n hx hb dX2_topsUp_64 rfl (lv_at hl 4 rfl) ?_
        refine vp_callSi (W.runV (As := [.int p1, .int p2]) (rest := [.int x_3]) ⟨hx, hb, hml, hown, hts⟩ (m_X2_earns l hq hm hi ht (p1) (p2)) (cwV 2 hts gX2_topsUp_X2_earns rfl rfl rfl (by decide +kernel) ⟨Nat.le_of_ble_eq_true rfl, Nat.le_of_ble_eq_true rfl⟩) (wy_pVR hK hP hq.1 rfl) rfl rfl hl.1 rfl (lv_room (Nat.le_of_ble_eq_true rfl)) dX2_topsUp_65 ⟨Nat.le_of_ble_eq_true rfl, Nat.le_of_ble_eq_true rfl⟩) (fun r_4 er_4 => ?_)
        refine lv_isub hx hb dX2_topsUp_68 ?_
        refine lv_topi (fun x_5 ex_5 => ?_)
        refine lv_istore (lv' := [(4, .int x_5), (3, .int a_s), (0, .ref om), (1, .int p1), (2, .int p2)]) hx hb dX2_topsUp_69 hl (by decide) rfl (fun ls hl => ?_)
        refine lv_iload hx hb dX2_topsUp_71 (lv_at hl 0 rfl) ?_
        refine lv_if_le (tgt := 81) hx hb dX2_topsUp_73 (by decide) (fun c_6 => ?_) (fun c_6 => ?_)
        · refine lv_iconst (v := 0) hx hb dX2_topsUp_81 (by decide) ?_
          exact wy_iR (tops_n (by simp only [ha_s, ex_2, ex_3, er_4, ex_5] at c_6; exact c_6)) hx hb hr hlocks dX2_topsUp_82
        · refine lv_iload hx hb dX2_topsUp_76 (lv_at hl 0 rfl) ?_
          refine lv_goto (tgt := 82) hx hb dX2_topsUp_78 (by decide) ?_
          exact wy_iR (by simp only [ha_s, ex_2, ex_3, er_4, ex_5] at c_6 ⊢; exact tops_p c_6) hx hb hr hlocks dX2_topsUp_82
      · have nc_1 : ¬ (n ≤ i) := fun z => c_1 ((wy_ge ei_i rfl (by first | omega | exact hsN _ _ | exact hdN _ _ | exact Nat.lt_of_le_of_lt (cb_le _ _) (by omega)) (by first | omega | exact hsN _ _ | exact hdN _ _ | exact Nat.lt_of_le_of_lt (cb_le _ _) (by omega))).mpr z)
        exact absurd nc_1 (by omega)
    | succ d ih_d =>
      intro i hd_i xi_i ei_i a_s ha_s ls hl
      refine lv_iload hx hb dX2_topsUp_5 (lv_at hl 0 rfl) ?_
      refine lv_aload_n hx hb dX2_topsUp_7 rfl (lv_at hl 2 rfl) ?_
      refine wy_get (ci := 3) (v := .int (nI n)) (C := RX2) (T := TX2) (N := 15) hx hb hts hinX2 hown hK hP hq.1 rfl 2 (by decide) (hts (.fieldLink RX2 51 "WheelpayModel" "rides" "I") (by decide +kernel)) (fun _ h9 => h9) rfl dX2_topsUp_8 ?_
      refine lv_icmp_ge (tgt := 54) hx hb dX2_topsUp_11 (by decide) (fun c_7 => ?_) (fun c_7 => ?_)
      · have nc_7 : n ≤ i := (wy_ge ei_i rfl (by first | omega | exact hsN _ _ | exact hdN _ _ | exact Nat.lt_of_le_of_lt (cb_le _ _) (by omega)) (by first | omega | exact hsN _ _ | exact hdN _ _ | exact Nat.lt_of_le_of_lt (cb_le _ _) (by omega))).mp c_7
        exact absurd nc_7 (by omega)
      · have nc_7 : ¬ (n ≤ i) := fun z => c_7 ((wy_ge ei_i rfl (by first | omega | exact hsN _ _ | exact hdN _ _ | exact Nat.lt_of_le_of_lt (cb_le _ _) (by omega)) (by first | omega | exact hsN _ _ | exact hdN _ _ | exact Nat.lt_of_le_of_lt (cb_le _ _) (by omega))).mpr z)
        refine lv_iload_n hx hb dX2_topsUp_14 rfl (lv_at hl 1 rfl) ?_
        refine lv_aload_n hx hb dX2_topsUp_15 rfl (lv_at hl 2 rfl) ?_
        refine lv_iload hx hb dX2_topsUp_16 (lv_at hl 0 rfl) ?_
        refine lv_iload_n hx hb dX2_topsUp_18 rfl (lv_at hl 3 rfl) ?_
        refine lv_iload_n hx hb dX2_topsUp_19 rfl (lv_at hl 4 rfl) ?_
        refine vp_callSi (W.runV (As := [.int xi_i, .int p1, .int p2]) (rest := [.int a_s]) ⟨hx, hb, hml, hown, hts⟩ (m_X2_belongs l hq hm hi ht (xi_i) (i) (by omega) ei_i (p1) (p2)) (cwV 3 hts gX2_topsUp_X2_belongs rfl rfl rfl (by decide +kernel) ⟨Nat.le_of_ble_eq_true rfl, Nat.le_of_ble_eq_true rfl⟩) (wy_pVR hK hP hq.1 rfl) rfl rfl hl.1 rfl (lv_room (Nat.le_of_ble_eq_true rfl)) dX2_topsUp_20 ⟨Nat.le_of_ble_eq_true rfl, Nat.le_of_ble_eq_true rfl⟩) (fun r_8 er_8 => ?_)
        refine lv_if_eq (tgt := 45) hx hb dX2_topsUp_23 (by decide) (fun c_9 => ?_) (fun c_9 => ?_)
        · have bc_9 : (fby rr p1 p2 i) = false := bI_0 (er_8.symm.trans c_9)
          have bfc_9 : fbyR (rr i) p1 p2 = _ := bc_9
          refine lv_iconst (v := 0) hx hb dX2_topsUp_45 (by decide) ?_
          refine lv_iadd hx hb dX2_topsUp_46 ?_
          refine lv_topi (fun x_10 ex_10 => ?_)
          refine lv_istore_n (lv' := [(3, .int x_10), (4, .int xi_i), (0, .ref om), (1, .int p1), (2, .int p2)]) hx hb dX2_topsUp_47 rfl hl (by decide) rfl (fun ls hl => ?_)
          obtain ⟨x_11, ex_11⟩ : ∃ y : Int32, y = xi_i + 1 := ⟨_, rfl⟩
          have nx_11 : x_11 = nI (i + 1) := by rw [ex_11, ei_i, nI_1]
          refine lv_iinc (v := x_11) (lv' := [(4, .int x_11), (3, .int x_10), (0, .ref om), (1, .int p1), (2, .int p2)]) hx hb dX2_topsUp_48 hl (k := 1) rfl (by rw [ex_11]; rfl) (by decide) rfl (fun ls hl => ?_)
          refine lv_goto (tgt := 5) hx hb dX2_topsUp_51 (by decide) ?_
          exact ih_d (i + 1) (by omega) _ nx_11 _ (by simp [minS, bx_sum, fok, ha_s, er_8, ex_10, ex_11, bc_9, bfc_9]) ls (lv_sub hl [0, 1, 2, 3, 4] rfl)
        · have bc_9 : (fby rr p1 p2 i) = true := bI_1 (fun z => c_9 (er_8.trans z))
          have bfc_9 : fbyR (rr i) p1 p2 = _ := bc_9
          refine lv_aload_n hx hb dX2_topsUp_26 rfl (lv_at hl 2 rfl) ?_
          refine lv_iload hx hb dX2_topsUp_27 (lv_at hl 0 rfl) ?_
          refine vp_callSi (W.runV (As := [.int xi_i]) (rest := [.int a_s]) ⟨hx, hb, hml, hown, hts⟩ (m_X2_isVoided l hq hm hi ht (xi_i) (i) (by omega) ei_i) (cwV 1 hts gX2_topsUp_X2_isVoided rfl rfl rfl (by decide +kernel) ⟨Nat.le_of_ble_eq_true rfl, Nat.le_of_ble_eq_true rfl⟩) (wy_pVR hK hP hq.1 rfl) rfl rfl hl.1 rfl (lv_room (Nat.le_of_ble_eq_true rfl)) dX2_topsUp_29 ⟨Nat.le_of_ble_eq_true rfl, Nat.le_of_ble_eq_true rfl⟩) (fun r_12 er_12 => ?_)
          refine lv_if_ne (tgt := 45) hx hb dX2_topsUp_32 (by decide) (fun c_13 => ?_) (fun c_13 => ?_)
          · have bc_13 : (voidR (rr i)) = true := bI_1 (fun z => c_13 (er_12.trans z))
            refine lv_iconst (v := 0) hx hb dX2_topsUp_45 (by decide) ?_
            refine lv_iadd hx hb dX2_topsUp_46 ?_
            refine lv_topi (fun x_14 ex_14 => ?_)
            refine lv_istore_n (lv' := [(3, .int x_14), (4, .int xi_i), (0, .ref om), (1, .int p1), (2, .int p2)]) hx hb dX2_topsUp_47 rfl hl (by decide) rfl (fun ls hl => ?_)
            obtain ⟨x_15, ex_15⟩ : ∃ y : Int32, y = xi_i + 1 := ⟨_, rfl⟩
            have nx_15 : x_15 = nI (i + 1) := by rw [ex_15, ei_i, nI_1]
            refine lv_iinc (v := x_15) (lv' := [(4, .int x_15), (3, .int x_14), (0, .ref om), (1, .int p1), (2, .int p2)]) hx hb dX2_topsUp_48 hl (k := 1) rfl (by rw [ex_15]; rfl) (by decide) rfl (fun ls hl => ?_)
            refine lv_goto (tgt := 5) hx hb dX2_topsUp_51 (by decide) ?_
            exact ih_d (i + 1) (by omega) _ nx_15 _ (by simp [minS, bx_sum, fok, ha_s, er_8, er_12, ex_14, ex_15, bc_9, bfc_9, bc_13]) ls (lv_sub hl [0, 1, 2, 3, 4] rfl)
          · have bc_13 : (voidR (rr i)) = false := bI_0 (er_12.symm.trans c_13)
            refine lv_aload_n hx hb dX2_topsUp_35 rfl (lv_at hl 2 rfl) ?_
            refine wy_get (ci := 3) (v := .ref (ma 2)) (C := RX2) (T := TX2) (N := 15) hx hb hts hinX2 hown hK hP hq.1 rfl 5 (by decide) (hts (.fieldLink RX2 23 "WheelpayModel" "minutes" "[I") (by decide +kernel)) (fun _ h9 => h9) rfl dX2_topsUp_36 ?_
            refine lv_iload hx hb dX2_topsUp_39 (lv_at hl 0 rfl) ?_
            refine wy_iald hx hb hK hP hq.2.2.2.1 (i) ei_i (by omega) (by omega) dX2_topsUp_41 ?_
            rw [show g2 (i) = rmi (rr i) from (hm.1 (i) (by omega)).2.2.1]
            refine lv_goto (tgt := 46) hx hb dX2_topsUp_42 (by decide) ?_
            refine lv_iadd hx hb dX2_topsUp_46 ?_
            refine lv_topi (fun x_16 ex_16 => ?_)
            refine lv_istore_n (lv' := [(3, .int x_16), (4, .int xi_i), (0, .ref om), (1, .int p1), (2, .int p2)]) hx hb dX2_topsUp_47 rfl hl (by decide) rfl (fun ls hl => ?_)
            obtain ⟨x_17, ex_17⟩ : ∃ y : Int32, y = xi_i + 1 := ⟨_, rfl⟩
            have nx_17 : x_17 = nI (i + 1) := by rw [ex_17, ei_i, nI_1]
            refine lv_iinc (v := x_17) (lv' := [(4, .int x_17), (3, .int x_16), (0, .ref om), (1, .int p1), (2, .int p2)]) hx hb dX2_topsUp_48 hl (k := 1) rfl (by rw [ex_17]; rfl) (by decide) rfl (fun ls hl => ?_)
            refine lv_goto (tgt := 5) hx hb dX2_topsUp_51 (by decide) ?_
            exact ih_d (i + 1) (by omega) _ nx_17 _ (by simp [minS, bx_sum, fok, ha_s, er_8, er_12, ex_16, ex_17, bc_9, bfc_9, bc_13]) ls (lv_sub hl [0, 1, 2, 3, 4] rfl)
  exact KK (n) 0 (by omega) _ rfl _ rfl ls (lv_sub hl [0, 1, 2, 3, 4] rfl)
set_option maxHeartbeats 4000000 in
set_option maxRecDepth 100000 in
theorem m_X2_premium (l : Launch) {G : wy_G} {L : List Nat} {f : Nat → va_E} {om : Nat} {ma : Nat → Nat} {n : Nat} {km mn : Int32} {wk : Nat} {th : Int32} {po : Nat → Int32} {rr : Nat → wr_V} {g0 g1 g2 g3 g4 g5 g6 g7 g8 g9 : Nat → Int32} {t : Nat} (hq : wm_S G L f om ma n km mn wk th g0 g1 g2 g3 g4 g5 g6 g7 g8 g9) (hm : wm_r po rr g0 g1 g2 g3 g4 g5 g6 g7 g8 g9) (hi : ∀ k, k < 40 → wi t (rr k)) (ht : t ≤ 512) (p1 p2 : Int32) : Met l yX2_premium wsX2_premium ({ frames := 1, cells := 0, slots := 0, locals := 24 } : Room) (va_Pc [.ref om, .int p1, .int p2] (wy_R G L f)) (vp_Si (fun z => z = bonS rr n p1 p2)) 0 0 (fun _ => False) := by
  refine Met.ofW (cc := cX2_premium) (maxL := 5) (ret := (some .int)) (by decide) rfl ?_
  intro p e s m args below meth c s₁ B hml hv
  obtain ⟨rfl, hP, hK⟩ := hv
  have hx := B.exec
  have hb := B.bytes
  have hr := B.returns
  have hts := atoms_spec (ws := wsX2_premium) B.pre
  have hown : s.vm.findClass RX2 = some m.cls := findClass_of_methodNamed B.named
  have hlocks := B.notSynchronized
  have hinX2 : ∀ w ∈ wsX20, w ∈ wsX2_premium := by decide +kernel
  have hn : n ≤ 40 := hq.2.2.2.2.2.2.2.2.2.2.2.2.2.1
  have hwk : wk ≤ 20 := hq.2.2.2.2.2.2.2.2.2.2.2.2.2.2
  have hsN : ∀ v r, stN v r < 2 ^ 31 := fun v r => by unfold stN; split <;> (try split) <;> (try split) <;> decide
  have hdN : ∀ v r, dpN v r < 2 ^ 31 := fun v r => by unfold dpN; split <;> (try split) <;> (try split) <;> decide
  have hl := lv_entry ([.ref om, .int p1, .int p2]) (n := 5) (Nat.le_of_ble_eq_true rfl)
  rw [lg_entry_eq]
  generalize (lg_sl ([.ref om, .int p1, .int p2]) ++ List.replicate (5 - (lg_sl ([.ref om, .int p1, .int p2])).length) Slot.unset).toArray = ls at hl ⊢
  have hl : lv_has ls 5 [(0, .ref om), (1, .int p1), (2, .int p2)] := hl
  refine lv_iconst (v := 0) hx hb dX2_premium_0 (by decide) ?_
  refine lv_istore_n (lv' := [(3, .int 0), (0, .ref om), (1, .int p1), (2, .int p2)]) hx hb dX2_premium_1 rfl hl (by decide) rfl (fun ls hl => ?_)
  refine lv_iconst (v := 0) hx hb dX2_premium_2 (by decide) ?_
  refine lv_istore (lv' := [(4, .int 0), (3, .int 0), (0, .ref om), (1, .int p1), (2, .int p2)]) hx hb dX2_premium_3 hl (by decide) rfl (fun ls hl => ?_)
  have KK : ∀ (d i : Nat), i + d = n → ∀ (xi_i : Int32), xi_i = nI (i) → ∀ (a_s : Int32), a_s = nI (cb (fok rr p1 p2) i) → ∀ ls : Array Slot, lv_has ls 5 [(4, .int xi_i), (3, .int a_s), (0, .ref om), (1, .int p1), (2, .int p2)] → W p l e (headSpec wsX2_premium ({ frames := 1, cells := 0, slots := 0, locals := 24 } : Room)).room s m ([.ref om, .int p1, .int p2] : List Value).toArray below meth c s.heap [] 0 0 (MQ below (vp_Si (fun z => z = bonS rr n p1 p2)) ([.ref om, .int p1, .int p2] : List Value).toArray s 0 0 (fun _ => False)) (F0 m 5 ls []) := by
    intro d
    induction d with
    | zero =>
      intro i hd_i xi_i ei_i a_s ha_s ls hl
      refine lv_iload hx hb dX2_premium_5 (lv_at hl 0 rfl) ?_
      refine lv_aload_n hx hb dX2_premium_7 rfl (lv_at hl 2 rfl) ?_
      refine wy_get (ci := 3) (v := .int (nI n)) (C := RX2) (T := TX2) (N := 15) hx hb hts hinX2 hown hK hP hq.1 rfl 2 (by decide) (hts (.fieldLink RX2 51 "WheelpayModel" "rides" "I") (by decide +kernel)) (fun _ h9 => h9) rfl dX2_premium_8 ?_
      refine lv_icmp_ge (tgt := 48) hx hb dX2_premium_11 (by decide) (fun c_1 => ?_) (fun c_1 => ?_)
      · have nc_1 : n ≤ i := (wy_ge ei_i rfl (by first | omega | exact hsN _ _ | exact hdN _ _ | exact Nat.lt_of_le_of_lt (cb_le _ _) (by omega)) (by first | omega | exact hsN _ _ | exact hdN _ _ | exact Nat.lt_of_le_of_lt (cb_le _ _) (by omega))).mp c_1
        obtain rfl : n = i := by omega
        refine lv_iload_n hx hb dX2_premium_48 rfl (lv_at hl 1 rfl) ?_
        refine lv_bipush (v := 8) hx hb dX2_premium_49 (by decide) ?_
        refine lv_icmp_le (tgt := 60) hx hb dX2_premium_51 (by decide) (fun c_2 => ?_) (fun c_2 => ?_)
        · have nc_2 : cb (fok rr p1 p2) n ≤ 8 := (wy_le ha_s (rfl : (8 : Int32) = nI 8) (by first | omega | exact hsN _ _ | exact hdN _ _ | exact Nat.lt_of_le_of_lt (cb_le _ _) (by omega)) (by decide)).mp c_2
          refine lv_iload_n hx hb dX2_premium_60 rfl (lv_at hl 1 rfl) ?_
          refine lv_iconst (v := 5) hx hb dX2_premium_61 (by decide) ?_
          refine lv_icmp_le (tgt := 71) hx hb dX2_premium_62 (by decide) (fun c_3 => ?_) (fun c_3 => ?_)
          · have nc_3 : cb (fok rr p1 p2) n ≤ 5 := (wy_le ha_s (rfl : (5 : Int32) = nI 5) (by first | omega | exact hsN _ _ | exact hdN _ _ | exact Nat.lt_of_le_of_lt (cb_le _ _) (by omega)) (by decide)).mp c_3
            refine lv_iload_n hx hb dX2_premium_71 rfl (lv_at hl 1 rfl) ?_
            refine lv_iconst (v := 2) hx hb dX2_premium_72 (by decide) ?_
            refine lv_icmp_le (tgt := 82) hx hb dX2_premium_73 (by decide) (fun c_4 => ?_) (fun c_4 => ?_)
            · have nc_4 : cb (fok rr p1 p2) n ≤ 2 := (wy_le ha_s (rfl : (2 : Int32) = nI 2) (by first | omega | exact hsN _ _ | exact hdN _ _ | exact Nat.lt_of_le_of_lt (cb_le _ _) (by omega)) (by decide)).mp c_4
              refine lv_iconst (v := 0) hx hb dX2_premium_82 (by decide) ?_
              exact wy_iR (by unfold bonS bonN; split <;> first | rfl | (exfalso; omega) | (split <;> first | rfl | (exfalso; omega) | (split <;> first | rfl | (exfalso; omega)))) hx hb hr hlocks dX2_premium_83
            · have nc_4 : ¬ (cb (fok rr p1 p2) n ≤ 2) := fun z => c_4 ((wy_le ha_s (rfl : (2 : Int32) = nI 2) (by first | omega | exact hsN _ _ | exact hdN _ _ | exact Nat.lt_of_le_of_lt (cb_le _ _) (by omega)) (by decide)).mpr z)
              refine lv_sipush (v := 1000) hx hb dX2_premium_76 (by decide) ?_
              refine lv_goto (tgt := 83) hx hb dX2_premium_79 (by decide) ?_
              exact wy_iR (by unfold bonS bonN; split <;> first | rfl | (exfalso; omega) | (split <;> first | rfl | (exfalso; omega) | (split <;> first | rfl | (exfalso; omega)))) hx hb hr hlocks dX2_premium_83
          · have nc_3 : ¬ (cb (fok rr p1 p2) n ≤ 5) := fun z => c_3 ((wy_le ha_s (rfl : (5 : Int32) = nI 5) (by first | omega | exact hsN _ _ | exact hdN _ _ | exact Nat.lt_of_le_of_lt (cb_le _ _) (by omega)) (by decide)).mpr z)
            refine lv_sipush (v := 3000) hx hb dX2_premium_65 (by decide) ?_
            refine lv_goto (tgt := 83) hx hb dX2_premium_68 (by decide) ?_
            exact wy_iR (by unfold bonS bonN; split <;> first | rfl | (exfalso; omega) | (split <;> first | rfl | (exfalso; omega) | (split <;> first | rfl | (exfalso; omega)))) hx hb hr hlocks dX2_premium_83
        · have nc_2 : ¬ (cb (fok rr p1 p2) n ≤ 8) := fun z => c_2 ((wy_le ha_s (rfl : (8 : Int32) = nI 8) (by first | omega | exact hsN _ _ | exact hdN _ _ | exact Nat.lt_of_le_of_lt (cb_le _ _) (by omega)) (by decide)).mpr z)
          refine lv_sipush (v := 6000) hx hb dX2_premium_54 (by decide) ?_
          refine lv_goto (tgt := 83) hx hb dX2_premium_57 (by decide) ?_
          exact wy_iR (by unfold bonS bonN; split <;> first | rfl | (exfalso; omega) | (split <;> first | rfl | (exfalso; omega) | (split <;> first | rfl | (exfalso; omega)))) hx hb hr hlocks dX2_premium_83
      · have nc_1 : ¬ (n ≤ i) := fun z => c_1 ((wy_ge ei_i rfl (by first | omega | exact hsN _ _ | exact hdN _ _ | exact Nat.lt_of_le_of_lt (cb_le _ _) (by omega)) (by first | omega | exact hsN _ _ | exact hdN _ _ | exact Nat.lt_of_le_of_lt (cb_le _ _) (by omega))).mpr z)
        exact absurd nc_1 (by omega)
    | succ d ih_d =>
      intro i hd_i xi_i ei_i a_s ha_s ls hl
      refine lv_iload hx hb dX2_premium_5 (lv_at hl 0 rfl) ?_
      refine lv_aload_n hx hb dX2_premium_7 rfl (lv_at hl 2 rfl) ?_
      refine wy_get (ci := 3) (v := .int (nI n)) (C := RX2) (T := TX2) (N := 15) hx hb hts hinX2 hown hK hP hq.1 rfl 2 (by decide) (hts (.fieldLink RX2 51 "WheelpayModel" "rides" "I") (by decide +kernel)) (fun _ h9 => h9) rfl dX2_premium_8 ?_
      refine lv_icmp_ge (tgt := 48) hx hb dX2_premium_11 (by decide) (fun c_5 => ?_) (fun c_5 => ?_)
      · have nc_5 : n ≤ i := (wy_ge ei_i rfl (by first | omega | exact hsN _ _ | exact hdN _ _ | exact Nat.lt_of_le_of_lt (cb_le _ _) (by omega)) (by first | omega | exact hsN _ _ | exact hdN _ _ | exact Nat.lt_of_le_of_lt (cb_le _ _) (by omega))).mp c_5
        exact absurd nc_5 (by omega)
      · have nc_5 : ¬ (n ≤ i) := fun z => c_5 ((wy_ge ei_i rfl (by first | omega | exact hsN _ _ | exact hdN _ _ | exact Nat.lt_of_le_of_lt (cb_le _ _) (by omega)) (by first | omega | exact hsN _ _ | exact hdN _ _ | exact Nat.lt_of_le_of_lt (cb_le _ _) (by omega))).mpr z)
        refine lv_iload_n hx hb dX2_premium_14 rfl (lv_at hl 1 rfl) ?_
        refine lv_aload_n hx hb dX2_premium_15 rfl (lv_at hl 2 rfl) ?_
        refine lv_iload hx hb dX2_premium_16 (lv_at hl 0 rfl) ?_
        refine lv_iload_n hx hb dX2_premium_18 rfl (lv_at hl 3 rfl) ?_
        refine lv_iload_n hx hb dX2_premium_19 rfl (lv_at hl 4 rfl) ?_
        refine vp_callSi (W.runV (As := [.int xi_i, .int p1, .int p2]) (rest := [.int a_s]) ⟨hx, hb, hml, hown, hts⟩ (m_X2_belongs l hq hm hi ht (xi_i) (i) (by omega) ei_i (p1) (p2)) (cwV 3 hts gX2_premium_X2_belongs rfl rfl rfl (by decide +kernel) ⟨Nat.le_of_ble_eq_true rfl, Nat.le_of_ble_eq_true rfl⟩) (wy_pVR hK hP hq.1 rfl) rfl rfl hl.1 rfl (lv_room (Nat.le_of_ble_eq_true rfl)) dX2_premium_20 ⟨Nat.le_of_ble_eq_true rfl, Nat.le_of_ble_eq_true rfl⟩) (fun r_6 er_6 => ?_)
        refine lv_if_eq (tgt := 39) hx hb dX2_premium_23 (by decide) (fun c_7 => ?_) (fun c_7 => ?_)
        · have bc_7 : (fby rr p1 p2 i) = false := bI_0 (er_6.symm.trans c_7)
          have bfc_7 : fbyR (rr i) p1 p2 = _ := bc_7
          refine lv_iconst (v := 0) hx hb dX2_premium_39 (by decide) ?_
          refine lv_iadd hx hb dX2_premium_40 ?_
          refine lv_topi (fun x_8 ex_8 => ?_)
          have nx_8 : x_8 = nI (cb (fok rr p1 p2) i + 0) := ex_8.trans ((congr (congrArg (fun u v : Int32 => u + v) ha_s) (rfl : (0 : Int32) = nI 0)).trans (nI_add _ _))
          refine lv_istore_n (lv' := [(3, .int x_8), (4, .int xi_i), (0, .ref om), (1, .int p1), (2, .int p2)]) hx hb dX2_premium_41 rfl hl (by decide) rfl (fun ls hl => ?_)
          obtain ⟨x_9, ex_9⟩ : ∃ y : Int32, y = xi_i + 1 := ⟨_, rfl⟩
          have nx_9 : x_9 = nI (i + 1) := by rw [ex_9, ei_i, nI_1]
          refine lv_iinc (v := x_9) (lv' := [(4, .int x_9), (3, .int x_8), (0, .ref om), (1, .int p1), (2, .int p2)]) hx hb dX2_premium_42 hl (k := 1) rfl (by rw [ex_9]; rfl) (by decide) rfl (fun ls hl => ?_)
          refine lv_goto (tgt := 5) hx hb dX2_premium_45 (by decide) ?_
          exact ih_d (i + 1) (by omega) _ nx_9 _ (by rw [show cb (fok rr p1 p2) (i + 1) = cb (fok rr p1 p2) i by simp [cb, fok, bc_7, bfc_7]]; exact nx_8) ls (lv_sub hl [0, 1, 2, 3, 4] rfl)
        · have bc_7 : (fby rr p1 p2 i) = true := bI_1 (fun z => c_7 (er_6.trans z))
          have bfc_7 : fbyR (rr i) p1 p2 = _ := bc_7
          refine lv_aload_n hx hb dX2_premium_26 rfl (lv_at hl 2 rfl) ?_
          refine lv_iload hx hb dX2_premium_27 (lv_at hl 0 rfl) ?_
          refine vp_callSi (W.runV (As := [.int xi_i]) (rest := [.int a_s]) ⟨hx, hb, hml, hown, hts⟩ (m_X2_isVoided l hq hm hi ht (xi_i) (i) (by omega) ei_i) (cwV 1 hts gX2_premium_X2_isVoided rfl rfl rfl (by decide +kernel) ⟨Nat.le_of_ble_eq_true rfl, Nat.le_of_ble_eq_true rfl⟩) (wy_pVR hK hP hq.1 rfl) rfl rfl hl.1 rfl (lv_room (Nat.le_of_ble_eq_true rfl)) dX2_premium_29 ⟨Nat.le_of_ble_eq_true rfl, Nat.le_of_ble_eq_true rfl⟩) (fun r_10 er_10 => ?_)
          refine lv_if_ne (tgt := 39) hx hb dX2_premium_32 (by decide) (fun c_11 => ?_) (fun c_11 => ?_)
          · have bc_11 : (voidR (rr i)) = true := bI_1 (fun z => c_11 (er_10.trans z))
            refine lv_iconst (v := 0) hx hb dX2_premium_39 (by decide) ?_
            refine lv_iadd hx hb dX2_premium_40 ?_
            refine lv_topi (fun x_12 ex_12 => ?_)
            have nx_12 : x_12 = nI (cb (fok rr p1 p2) i + 0) := ex_12.trans ((congr (congrArg (fun u v : Int32 => u + v) ha_s) (rfl : (0 : Int32) = nI 0)).trans (nI_add _ _))
            refine lv_istore_n (lv' := [(3, .int x_12), (4, .int xi_i), (0, .ref om), (1, .int p1), (2, .int p2)]) hx hb dX2_premium_41 rfl hl (by decide) rfl (fun ls hl => ?_)
            obtain ⟨x_13, ex_13⟩ : ∃ y : Int32, y = xi_i + 1 := ⟨_, rfl⟩
            have nx_13 : x_13 = nI (i + 1) := by rw [ex_13, ei_i, nI_1]
            refine lv_iinc (v := x_13) (lv' := [(4, .int x_13), (3, .int x_12), (0, .ref om), (1, .int p1), (2, .int p2)]) hx hb dX2_premium_42 hl (k := 1) rfl (by rw [ex_13]; rfl) (by decide) rfl (fun ls hl => ?_)
            refine lv_goto (tgt := 5) hx hb dX2_premium_45 (by decide) ?_
            exact ih_d (i + 1) (by omega) _ nx_13 _ (by rw [show cb (fok rr p1 p2) (i + 1) = cb (fok rr p1 p2) i by simp [cb, fok, bc_7, bfc_7, bc_11]]; exact nx_12) ls (lv_sub hl [0, 1, 2, 3, 4] rfl)
          · have bc_11 : (voidR (rr i)) = false := bI_0 (er_10.symm.trans c_11)
            refine lv_iconst (v := 1) hx hb dX2_premium_35 (by decide) ?_
            refine lv_goto (tgt := 40) hx hb dX2_premium_36 (by decide) ?_
            refine lv_iadd hx hb dX2_premium_40 ?_
            refine lv_topi (fun x_14 ex_14 => ?_)
            have nx_14 : x_14 = nI (cb (fok rr p1 p2) i + 1) := ex_14.trans ((congr (congrArg (fun u v : Int32 => u + v) ha_s) (rfl : (1 : Int32) = nI 1)).trans (nI_add _ _))
            refine lv_istore_n (lv' := [(3, .int x_14), (4, .int xi_i), (0, .ref om), (1, .int p1), (2, .int p2)]) hx hb dX2_premium_41 rfl hl (by decide) rfl (fun ls hl => ?_)
            obtain ⟨x_15, ex_15⟩ : ∃ y : Int32, y = xi_i + 1 := ⟨_, rfl⟩
            have nx_15 : x_15 = nI (i + 1) := by rw [ex_15, ei_i, nI_1]
            refine lv_iinc (v := x_15) (lv' := [(4, .int x_15), (3, .int x_14), (0, .ref om), (1, .int p1), (2, .int p2)]) hx hb dX2_premium_42 hl (k := 1) rfl (by rw [ex_15]; rfl) (by decide) rfl (fun ls hl => ?_)
            refine lv_goto (tgt := 5) hx hb dX2_premium_45 (by decide) ?_
            exact ih_d (i + 1) (by omega) _ nx_15 _ (by rw [show cb (fok rr p1 p2) (i + 1) = cb (fok rr p1 p2) i + 1 by simp [cb, fok, bc_7, bfc_7, bc_11]]; exact nx_14) ls (lv_sub hl [0, 1, 2, 3, 4] rfl)
  exact KK (n) 0 (by omega) _ rfl _ rfl ls (lv_sub hl [0, 1, 2, 3, 4] rfl)
set_option maxHeartbeats 4000000 in
set_option maxRecDepth 100000 in
theorem m_X2_pays (l : Launch) {G : wy_G} {L : List Nat} {f : Nat → va_E} {om : Nat} {ma : Nat → Nat} {n : Nat} {km mn : Int32} {wk : Nat} {th : Int32} {po : Nat → Int32} {rr : Nat → wr_V} {g0 g1 g2 g3 g4 g5 g6 g7 g8 g9 : Nat → Int32} {t : Nat} (hq : wm_S G L f om ma n km mn wk th g0 g1 g2 g3 g4 g5 g6 g7 g8 g9) (hm : wm_r po rr g0 g1 g2 g3 g4 g5 g6 g7 g8 g9) (hi : ∀ k, k < 40 → wi t (rr k)) (ht : t ≤ 512) (p1 p2 : Int32) : Met l yX2_pays wsX2_pays ({ frames := 3, cells := 0, slots := 0, locals := 72 } : Room) (va_Pc [.ref om, .int p1, .int p2] (wy_R G L f)) (vp_Si (fun z => z = payS rr n p1 p2)) 0 0 (fun _ => False) := by
  refine Met.ofW (cc := cX2_pays) (maxL := 3) (ret := (some .int)) (by decide) rfl ?_
  intro p e s m args below meth c s₁ B hml hv
  obtain ⟨rfl, hP, hK⟩ := hv
  have hx := B.exec
  have hb := B.bytes
  have hr := B.returns
  have hts := atoms_spec (ws := wsX2_pays) B.pre
  have hown : s.vm.findClass RX2 = some m.cls := findClass_of_methodNamed B.named
  have hlocks := B.notSynchronized
  have hn : n ≤ 40 := hq.2.2.2.2.2.2.2.2.2.2.2.2.2.1
  have hwk : wk ≤ 20 := hq.2.2.2.2.2.2.2.2.2.2.2.2.2.2
  have hsN : ∀ v r, stN v r < 2 ^ 31 := fun v r => by unfold stN; split <;> (try split) <;> (try split) <;> decide
  have hdN : ∀ v r, dpN v r < 2 ^ 31 := fun v r => by unfold dpN; split <;> (try split) <;> (try split) <;> decide
  have hl := lv_entry ([.ref om, .int p1, .int p2]) (n := 3) (Nat.le_of_ble_eq_true rfl)
  rw [lg_entry_eq]
  generalize (lg_sl ([.ref om, .int p1, .int p2]) ++ List.replicate (3 - (lg_sl ([.ref om, .int p1, .int p2])).length) Slot.unset).toArray = ls at hl ⊢
  have hl : lv_has ls 3 [(0, .ref om), (1, .int p1), (2, .int p2)] := hl
  refine lv_aload_n hx hb dX2_pays_0 rfl (lv_at hl 0 rfl) ?_
  refine lv_iload_n hx hb dX2_pays_1 rfl (lv_at hl 1 rfl) ?_
  refine lv_iload_n hx hb dX2_pays_2 rfl (lv_at hl 2 rfl) ?_
  refine vp_callSi (W.runV (As := [.int p1, .int p2]) (rest := []) ⟨hx, hb, hml, hown, hts⟩ (m_X2_earns l hq hm hi ht (p1) (p2)) (cwV 2 hts gX2_pays_X2_earns rfl rfl rfl (by decide +kernel) ⟨Nat.le_of_ble_eq_true rfl, Nat.le_of_ble_eq_true rfl⟩) (wy_pVR hK hP hq.1 rfl) rfl rfl hl.1 rfl (lv_room (Nat.le_of_ble_eq_true rfl)) dX2_pays_3 ⟨Nat.le_of_ble_eq_true rfl, Nat.le_of_ble_eq_true rfl⟩) (fun r_1 er_1 => ?_)
  refine lv_aload_n hx hb dX2_pays_6 rfl (lv_at hl 0 rfl) ?_
  refine lv_iload_n hx hb dX2_pays_7 rfl (lv_at hl 1 rfl) ?_
  refine lv_iload_n hx hb dX2_pays_8 rfl (lv_at hl 2 rfl) ?_
  refine vp_callSi (W.runV (As := [.int p1, .int p2]) (rest := [.int r_1]) ⟨hx, hb, hml, hown, hts⟩ (m_X2_topsUp l hq hm hi ht (p1) (p2)) (cwV 2 hts gX2_pays_X2_topsUp rfl rfl rfl (by decide +kernel) ⟨Nat.le_of_ble_eq_true rfl, Nat.le_of_ble_eq_true rfl⟩) (wy_pVR hK hP hq.1 rfl) rfl rfl hl.1 rfl (lv_room (Nat.le_of_ble_eq_true rfl)) dX2_pays_9 ⟨Nat.le_of_ble_eq_true rfl, Nat.le_of_ble_eq_true rfl⟩) (fun r_2 er_2 => ?_)
  refine lv_iadd hx hb dX2_pays_12 ?_
  refine lv_topi (fun x_3 ex_3 => ?_)
  refine lv_aload_n hx hb dX2_pays_13 rfl (lv_at hl 0 rfl) ?_
  refine lv_iload_n hx hb dX2_pays_14 rfl (lv_at hl 1 rfl) ?_
  refine lv_iload_n hx hb dX2_pays_15 rfl (lv_at hl 2 rfl) ?_
  refine vp_callSi (W.runV (As := [.int p1, .int p2]) (rest := [.int x_3]) ⟨hx, hb, hml, hown, hts⟩ (m_X2_premium l hq hm hi ht (p1) (p2)) (cwV 2 hts gX2_pays_X2_premium rfl rfl rfl (by decide +kernel) ⟨Nat.le_of_ble_eq_true rfl, Nat.le_of_ble_eq_true rfl⟩) (wy_pVR hK hP hq.1 rfl) rfl rfl hl.1 rfl (lv_room (Nat.le_of_ble_eq_true rfl)) dX2_pays_16 ⟨Nat.le_of_ble_eq_true rfl, Nat.le_of_ble_eq_true rfl⟩) (fun r_4 er_4 => ?_)
  refine lv_iadd hx hb dX2_pays_19 ?_
  refine lv_topi (fun x_5 ex_5 => ?_)
  exact wy_iR (by simp only [er_1, er_2, ex_3, er_4, ex_5]; rfl) hx hb hr hlocks dX2_pays_20
set_option maxHeartbeats 4000000 in
set_option maxRecDepth 100000 in
theorem m_X2_owes (l : Launch) {G : wy_G} {L : List Nat} {f : Nat → va_E} {om : Nat} {ma : Nat → Nat} {n : Nat} {km mn : Int32} {wk : Nat} {th : Int32} {po : Nat → Int32} {rr : Nat → wr_V} {g0 g1 g2 g3 g4 g5 g6 g7 g8 g9 : Nat → Int32} {t : Nat} (hq : wm_S G L f om ma n km mn wk th g0 g1 g2 g3 g4 g5 g6 g7 g8 g9) (hm : wm_r po rr g0 g1 g2 g3 g4 g5 g6 g7 g8 g9) (hi : ∀ k, k < 40 → wi t (rr k)) (ht : t ≤ 512) (p1 p2 : Int32) (k q : Nat) (hk : k < 5) (hq30 : q ≤ 30) (e1 : p1 = nI k) (e2 : p2 = nI q) : Met l yX2_owes wsX2_owes ({ frames := 4, cells := 0, slots := 0, locals := 94 } : Room) (va_Pc [.ref om, .int p1, .int p2] (wy_R G L f)) (vp_Si (fun z => z = payB rr n p1 q - po k)) 0 0 (fun _ => False) := by
  refine Met.ofW (cc := cX2_owes) (maxL := 5) (ret := (some .int)) (by decide) rfl ?_
  intro p e s m args below meth c s₁ B hml hv
  obtain ⟨rfl, hP, hK⟩ := hv
  have hx := B.exec
  have hb := B.bytes
  have hr := B.returns
  have hts := atoms_spec (ws := wsX2_owes) B.pre
  have hown : s.vm.findClass RX2 = some m.cls := findClass_of_methodNamed B.named
  have hlocks := B.notSynchronized
  have hinX2 : ∀ w ∈ wsX20, w ∈ wsX2_owes := by decide +kernel
  have hn : n ≤ 40 := hq.2.2.2.2.2.2.2.2.2.2.2.2.2.1
  have hwk : wk ≤ 20 := hq.2.2.2.2.2.2.2.2.2.2.2.2.2.2
  have hsN : ∀ v r, stN v r < 2 ^ 31 := fun v r => by unfold stN; split <;> (try split) <;> (try split) <;> decide
  have hdN : ∀ v r, dpN v r < 2 ^ 31 := fun v r => by unfold dpN; split <;> (try split) <;> (try split) <;> decide
  have hl := lv_entry ([.ref om, .int p1, .int p2]) (n := 5) (Nat.le_of_ble_eq_true rfl)
  rw [lg_entry_eq]
  generalize (lg_sl ([.ref om, .int p1, .int p2]) ++ List.replicate (5 - (lg_sl ([.ref om, .int p1, .int p2])).length) Slot.unset).toArray = ls at hl ⊢
  have hl : lv_has ls 5 [(0, .ref om), (1, .int p1), (2, .int p2)] := hl
  refine lv_aload_n hx hb dX2_owes_0 rfl (lv_at hl 0 rfl) ?_
  refine wy_get (ci := 3) (v := .ref (ma 9)) (C := RX2) (T := TX2) (N := 15) hx hb hts hinX2 hown hK hP hq.1 rfl 13 (by decide) (hts (.fieldLink RX2 45 "WheelpayModel" "paid" "[I") (by decide +kernel)) (fun _ h9 => h9) rfl dX2_owes_1 ?_
  refine lv_iload_n hx hb dX2_owes_4 rfl (lv_at hl 1 rfl) ?_
  refine wy_iald hx hb hK hP hq.2.2.2.2.2.2.2.2.2.2.1 (k) e1 (by omega) (by omega) dX2_owes_5 ?_
  rw [show g9 (k) = po k from hm.2 (k) (by omega)]
  refine lv_ineg hx hb dX2_owes_6 ?_
  refine lv_topi (fun x_1 ex_1 => ?_)
  refine lv_istore_n (lv' := [(3, .int x_1), (0, .ref om), (1, .int p1), (2, .int p2)]) hx hb dX2_owes_7 rfl hl (by decide) rfl (fun ls hl => ?_)
  refine lv_iconst (v := 0) hx hb dX2_owes_8 (by decide) ?_
  refine lv_istore (lv' := [(4, .int 0), (3, .int x_1), (0, .ref om), (1, .int p1), (2, .int p2)]) hx hb dX2_owes_9 hl (by decide) rfl (fun ls hl => ?_)
  have KK : ∀ (d i : Nat), i + d = q → ∀ (xi_i : Int32), xi_i = nI (i) → ∀ (a_s : Int32), a_s = -po k + payB rr n p1 i → ∀ ls : Array Slot, lv_has ls 5 [(4, .int xi_i), (3, .int a_s), (0, .ref om), (1, .int p1), (2, .int p2)] → W p l e (headSpec wsX2_owes ({ frames := 4, cells := 0, slots := 0, locals := 94 } : Room)).room s m ([.ref om, .int p1, .int p2] : List Value).toArray below meth c s.heap [] 0 0 (MQ below (vp_Si (fun z => z = payB rr n p1 q - po k)) ([.ref om, .int p1, .int p2] : List Value).toArray s 0 0 (fun _ => False)) (F0 m 11 ls []) := by
    intro d
    induction d with
    | zero =>
      intro i hd_i xi_i ei_i a_s ha_s ls hl
      refine lv_iload hx hb dX2_owes_11 (lv_at hl 0 rfl) ?_
      refine lv_iload_n hx hb dX2_owes_13 rfl (lv_at hl 4 rfl) ?_
      refine lv_icmp_ge (tgt := 33) hx hb dX2_owes_14 (by decide) (fun c_2 => ?_) (fun c_2 => ?_)
      · have nc_2 : q ≤ i := (wy_ge ei_i e2 (by first | omega | exact hsN _ _ | exact hdN _ _ | exact Nat.lt_of_le_of_lt (cb_le _ _) (by omega)) (by first | omega | exact hsN _ _ | exact hdN _ _ | exact Nat.lt_of_le_of_lt (cb_le _ _) (by omega))).mp c_2
        obtain rfl : q = i := by omega
        refine lv_iload_n hx hb dX2_owes_33 rfl (lv_at hl 1 rfl) ?_
        exact wy_iR (by rw [ha_s, Int32.add_comm, Int32.sub_eq_add_neg]) hx hb hr hlocks dX2_owes_34
      · have nc_2 : ¬ (q ≤ i) := fun z => c_2 ((wy_ge ei_i e2 (by first | omega | exact hsN _ _ | exact hdN _ _ | exact Nat.lt_of_le_of_lt (cb_le _ _) (by omega)) (by first | omega | exact hsN _ _ | exact hdN _ _ | exact Nat.lt_of_le_of_lt (cb_le _ _) (by omega))).mpr z)
        exact absurd nc_2 (by omega)
    | succ d ih_d =>
      intro i hd_i xi_i ei_i a_s ha_s ls hl
      refine lv_iload hx hb dX2_owes_11 (lv_at hl 0 rfl) ?_
      refine lv_iload_n hx hb dX2_owes_13 rfl (lv_at hl 4 rfl) ?_
      refine lv_icmp_ge (tgt := 33) hx hb dX2_owes_14 (by decide) (fun c_3 => ?_) (fun c_3 => ?_)
      · have nc_3 : q ≤ i := (wy_ge ei_i e2 (by first | omega | exact hsN _ _ | exact hdN _ _ | exact Nat.lt_of_le_of_lt (cb_le _ _) (by omega)) (by first | omega | exact hsN _ _ | exact hdN _ _ | exact Nat.lt_of_le_of_lt (cb_le _ _) (by omega))).mp c_3
        exact absurd nc_3 (by omega)
      · have nc_3 : ¬ (q ≤ i) := fun z => c_3 ((wy_ge ei_i e2 (by first | omega | exact hsN _ _ | exact hdN _ _ | exact Nat.lt_of_le_of_lt (cb_le _ _) (by omega)) (by first | omega | exact hsN _ _ | exact hdN _ _ | exact Nat.lt_of_le_of_lt (cb_le _ _) (by omega))).mpr z)
        refine lv_iload_n hx hb dX2_owes_17 rfl (lv_at hl 1 rfl) ?_
        refine lv_aload_n hx hb dX2_owes_18 rfl (lv_at hl 2 rfl) ?_
        refine lv_iload_n hx hb dX2_owes_19 rfl (lv_at hl 3 rfl) ?_
        refine lv_iload hx hb dX2_owes_20 (lv_at hl 0 rfl) ?_
        refine vp_callSi (W.runV (As := [.int p1, .int xi_i]) (rest := [.int a_s]) ⟨hx, hb, hml, hown, hts⟩ (m_X2_pays l hq hm hi ht (p1) (xi_i)) (cwV 2 hts gX2_owes_X2_pays rfl rfl rfl (by decide +kernel) ⟨Nat.le_of_ble_eq_true rfl, Nat.le_of_ble_eq_true rfl⟩) (wy_pVR hK hP hq.1 rfl) rfl rfl hl.1 rfl (lv_room (Nat.le_of_ble_eq_true rfl)) dX2_owes_22 ⟨Nat.le_of_ble_eq_true rfl, Nat.le_of_ble_eq_true rfl⟩) (fun r_4 er_4 => ?_)
        refine lv_iadd hx hb dX2_owes_25 ?_
        refine lv_topi (fun x_5 ex_5 => ?_)
        refine lv_istore_n (lv' := [(3, .int x_5), (4, .int xi_i), (0, .ref om), (1, .int p1), (2, .int p2)]) hx hb dX2_owes_26 rfl hl (by decide) rfl (fun ls hl => ?_)
        obtain ⟨x_6, ex_6⟩ : ∃ y : Int32, y = xi_i + 1 := ⟨_, rfl⟩
        have nx_6 : x_6 = nI (i + 1) := by rw [ex_6, ei_i, nI_1]
        refine lv_iinc (v := x_6) (lv' := [(4, .int x_6), (3, .int x_5), (0, .ref om), (1, .int p1), (2, .int p2)]) hx hb dX2_owes_27 hl (k := 1) rfl (by rw [ex_6]; rfl) (by decide) rfl (fun ls hl => ?_)
        refine lv_goto (tgt := 11) hx hb dX2_owes_30 (by decide) ?_
        exact ih_d (i + 1) (by omega) _ nx_6 _ (by simp only [ha_s, er_4, ex_5, ex_6, ei_i]; exact Int32.add_assoc _ _ _) ls (lv_sub hl [0, 1, 2, 3, 4] rfl)
  exact KK (q) 0 (by omega) _ rfl _ (by simp only [ex_1]; exact (Int32.add_zero _).symm) ls (lv_sub hl [0, 1, 2, 3, 4] rfl)
set_option maxHeartbeats 4000000 in
set_option maxRecDepth 100000 in
theorem m_X2_spends (l : Launch) {G : wy_G} {L : List Nat} {f : Nat → va_E} {om : Nat} {ma : Nat → Nat} {n : Nat} {km mn : Int32} {wk : Nat} {th : Int32} {po : Nat → Int32} {rr : Nat → wr_V} {g0 g1 g2 g3 g4 g5 g6 g7 g8 g9 : Nat → Int32} {t : Nat} (hq : wm_S G L f om ma n km mn wk th g0 g1 g2 g3 g4 g5 g6 g7 g8 g9) (hm : wm_r po rr g0 g1 g2 g3 g4 g5 g6 g7 g8 g9) (hi : ∀ k, k < 40 → wi t (rr k)) (ht : t ≤ 512) (p1 : Int32) (r : Nat) (hr10 : r < 10) (e1 : p1 = nI r) (bb : Bool) : Met l yX2_spends wsX2_spends ({ frames := 0, cells := 0, slots := 0, locals := 0 } : Room) (va_Pc [.ref om, .int p1, .int (bI bb)] (wy_R G L f)) (vp_Si (fun z => z = bx_sum (fun k => if rfi (rr k) then rch (rr k) r - (if bb then rrf (rr k) r else 0) else 0) n)) 0 0 (fun _ => False) := by
  refine Met.ofW (cc := cX2_spends) (maxL := 6) (ret := (some .int)) (by decide) rfl ?_
  intro p e s m args below meth c s₁ B hml hv
  obtain ⟨rfl, hP, hK⟩ := hv
  have hx := B.exec
  have hb := B.bytes
  have hr := B.returns
  have hts := atoms_spec (ws := wsX2_spends) B.pre
  have hown : s.vm.findClass RX2 = some m.cls := findClass_of_methodNamed B.named
  have hlocks := B.notSynchronized
  have hinX2 : ∀ w ∈ wsX20, w ∈ wsX2_spends := by decide +kernel
  have hn : n ≤ 40 := hq.2.2.2.2.2.2.2.2.2.2.2.2.2.1
  have hwk : wk ≤ 20 := hq.2.2.2.2.2.2.2.2.2.2.2.2.2.2
  have hsN : ∀ v r, stN v r < 2 ^ 31 := fun v r => by unfold stN; split <;> (try split) <;> (try split) <;> decide
  have hdN : ∀ v r, dpN v r < 2 ^ 31 := fun v r => by unfold dpN; split <;> (try split) <;> (try split) <;> decide
  have hl := lv_entry ([.ref om, .int p1, .int (bI bb)]) (n := 6) (Nat.le_of_ble_eq_true rfl)
  rw [lg_entry_eq]
  generalize (lg_sl ([.ref om, .int p1, .int (bI bb)]) ++ List.replicate (6 - (lg_sl ([.ref om, .int p1, .int (bI bb)])).length) Slot.unset).toArray = ls at hl ⊢
  have hl : lv_has ls 6 [(0, .ref om), (1, .int p1), (2, .int (bI bb))] := hl
  refine lv_iconst (v := 0) hx hb dX2_spends_0 (by decide) ?_
  refine lv_istore_n (lv' := [(3, .int 0), (0, .ref om), (1, .int p1), (2, .int (bI bb))]) hx hb dX2_spends_1 rfl hl (by decide) rfl (fun ls hl => ?_)
  refine lv_iconst (v := 0) hx hb dX2_spends_2 (by decide) ?_
  refine lv_istore (lv' := [(4, .int 0), (3, .int 0), (0, .ref om), (1, .int p1), (2, .int (bI bb))]) hx hb dX2_spends_3 hl (by decide) rfl (fun ls hl => ?_)
  have KK : ∀ (d i : Nat), i + d = n → ∀ (xi_i : Int32), xi_i = nI (i) → ∀ (a_s : Int32), a_s = bx_sum (fun k => if rfi (rr k) then rch (rr k) r - (if bb then rrf (rr k) r else 0) else 0) i → ∀ ls : Array Slot, lv_has ls 6 [(4, .int xi_i), (3, .int a_s), (0, .ref om), (1, .int p1), (2, .int (bI bb))] → W p l e (headSpec wsX2_spends ({ frames := 0, cells := 0, slots := 0, locals := 0 } : Room)).room s m ([.ref om, .int p1, .int (bI bb)] : List Value).toArray below meth c s.heap [] 0 0 (MQ below (vp_Si (fun z => z = bx_sum (fun k => if rfi (rr k) then rch (rr k) r - (if bb then rrf (rr k) r else 0) else 0) n)) ([.ref om, .int p1, .int (bI bb)] : List Value).toArray s 0 0 (fun _ => False)) (F0 m 5 ls []) := by
    intro d
    induction d with
    | zero =>
      intro i hd_i xi_i ei_i a_s ha_s ls hl
      refine lv_iload hx hb dX2_spends_5 (lv_at hl 0 rfl) ?_
      refine lv_aload_n hx hb dX2_spends_7 rfl (lv_at hl 2 rfl) ?_
      refine wy_get (ci := 3) (v := .int (nI n)) (C := RX2) (T := TX2) (N := 15) hx hb hts hinX2 hown hK hP hq.1 rfl 2 (by decide) (hts (.fieldLink RX2 51 "WheelpayModel" "rides" "I") (by decide +kernel)) (fun _ h9 => h9) rfl dX2_spends_8 ?_
      refine lv_icmp_ge (tgt := 69) hx hb dX2_spends_11 (by decide) (fun c_1 => ?_) (fun c_1 => ?_)
      · have nc_1 : n ≤ i := (wy_ge ei_i rfl (by first | omega | exact hsN _ _ | exact hdN _ _ | exact Nat.lt_of_le_of_lt (cb_le _ _) (by omega)) (by first | omega | exact hsN _ _ | exact hdN _ _ | exact Nat.lt_of_le_of_lt (cb_le _ _) (by omega))).mp c_1
        obtain rfl : n = i := by omega
        refine lv_iload_n hx hb dX2_spends_69 rfl (lv_at hl 1 rfl) ?_
        exact wy_iR ha_s hx hb hr hlocks dX2_spends_70
      · have nc_1 : ¬ (n ≤ i) := fun z => c_1 ((wy_ge ei_i rfl (by first | omega | exact hsN _ _ | exact hdN _ _ | exact Nat.lt_of_le_of_lt (cb_le _ _) (by omega)) (by first | omega | exact hsN _ _ | exact hdN _ _ | exact Nat.lt_of_le_of_lt (cb_le _ _) (by omega))).mpr z)
        exact absurd nc_1 (by omega)
    | succ d ih_d =>
      intro i hd_i xi_i ei_i a_s ha_s ls hl
      refine lv_iload hx hb dX2_spends_5 (lv_at hl 0 rfl) ?_
      refine lv_aload_n hx hb dX2_spends_7 rfl (lv_at hl 2 rfl) ?_
      refine wy_get (ci := 3) (v := .int (nI n)) (C := RX2) (T := TX2) (N := 15) hx hb hts hinX2 hown hK hP hq.1 rfl 2 (by decide) (hts (.fieldLink RX2 51 "WheelpayModel" "rides" "I") (by decide +kernel)) (fun _ h9 => h9) rfl dX2_spends_8 ?_
      refine lv_icmp_ge (tgt := 69) hx hb dX2_spends_11 (by decide) (fun c_2 => ?_) (fun c_2 => ?_)
      · have nc_2 : n ≤ i := (wy_ge ei_i rfl (by first | omega | exact hsN _ _ | exact hdN _ _ | exact Nat.lt_of_le_of_lt (cb_le _ _) (by omega)) (by first | omega | exact hsN _ _ | exact hdN _ _ | exact Nat.lt_of_le_of_lt (cb_le _ _) (by omega))).mp c_2
        exact absurd nc_2 (by omega)
      · have nc_2 : ¬ (n ≤ i) := fun z => c_2 ((wy_ge ei_i rfl (by first | omega | exact hsN _ _ | exact hdN _ _ | exact Nat.lt_of_le_of_lt (cb_le _ _) (by omega)) (by first | omega | exact hsN _ _ | exact hdN _ _ | exact Nat.lt_of_le_of_lt (cb_le _ _) (by omega))).mpr z)
        refine lv_bipush (v := 10) hx hb dX2_spends_14 (by decide) ?_
        refine lv_iload hx hb dX2_spends_16 (lv_at hl 0 rfl) ?_
        refine lv_imul hx hb dX2_spends_18 ?_
        refine lv_topi (fun x_3 ex_3 => ?_)
        have nx_3 : x_3 = nI (10 * i) := ex_3.trans ((congr (congrArg (fun u v : Int32 => u * v) (rfl : (10 : Int32) = nI 10)) ei_i).trans (pk_mul _ _))
        refine lv_iload_n hx hb dX2_spends_19 rfl (lv_at hl 3 rfl) ?_
        refine lv_iadd hx hb dX2_spends_20 ?_
        refine lv_topi (fun x_4 ex_4 => ?_)
        have nx_4 : x_4 = nI (10 * i + r) := ex_4.trans ((congr (congrArg (fun u v : Int32 => u + v) nx_3) e1).trans (nI_add _ _))
        refine lv_istore (lv' := [(5, .int x_4), (4, .int xi_i), (3, .int a_s), (0, .ref om), (1, .int p1), (2, .int (bI bb))]) hx hb dX2_spends_21 hl (by decide) rfl (fun ls hl => ?_)
        refine lv_iload_n hx hb dX2_spends_23 rfl (lv_at hl 2 rfl) ?_
        refine lv_aload_n hx hb dX2_spends_24 rfl (lv_at hl 3 rfl) ?_
        refine wy_get (ci := 3) (v := .ref (ma 3)) (C := RX2) (T := TX2) (N := 15) hx hb hts hinX2 hown hK hP hq.1 rfl 6 (by decide) (hts (.fieldLink RX2 26 "WheelpayModel" "isDone" "[Z") (by decide +kernel)) (fun _ h9 => h9) rfl dX2_spends_25 ?_
        refine lv_iload hx hb dX2_spends_28 (lv_at hl 1 rfl) ?_
        refine wy_zald hx hb hK hP hq.2.2.2.2.1 (i) ei_i (by omega) (by omega) dX2_spends_30 ?_
        rw [show g3 (i) = bI (rfi (rr i)) from (hm.1 (i) (by omega)).2.2.2.1]
        refine lv_if_eq (tgt := 60) hx hb dX2_spends_31 (by decide) (fun c_5 => ?_) (fun c_5 => ?_)
        · have bc_5 : (rfi (rr i)) = false := bI_0 (rfl.symm.trans c_5)
          refine lv_iconst (v := 0) hx hb dX2_spends_60 (by decide) ?_
          refine lv_iadd hx hb dX2_spends_61 ?_
          refine lv_topi (fun x_6 ex_6 => ?_)
          refine lv_istore_n (lv' := [(3, .int x_6), (5, .int x_4), (4, .int xi_i), (0, .ref om), (1, .int p1), (2, .int (bI bb))]) hx hb dX2_spends_62 rfl hl (by decide) rfl (fun ls hl => ?_)
          obtain ⟨x_7, ex_7⟩ : ∃ y : Int32, y = xi_i + 1 := ⟨_, rfl⟩
          have nx_7 : x_7 = nI (i + 1) := by rw [ex_7, ei_i, nI_1]
          refine lv_iinc (v := x_7) (lv' := [(4, .int x_7), (3, .int x_6), (5, .int x_4), (0, .ref om), (1, .int p1), (2, .int (bI bb))]) hx hb dX2_spends_63 hl (k := 2) rfl (by rw [ex_7]; rfl) (by decide) rfl (fun ls hl => ?_)
          refine lv_goto (tgt := 5) hx hb dX2_spends_66 (by decide) ?_
          exact ih_d (i + 1) (by omega) _ nx_7 _ (by simp [bx_sum, ha_s, ex_3, ex_4, ex_6, ex_7, bc_5]) ls (lv_sub hl [0, 1, 3, 4, 5] rfl)
        · have bc_5 : (rfi (rr i)) = true := bI_1 (fun z => c_5 (rfl.trans z))
          refine lv_aload_n hx hb dX2_spends_34 rfl (lv_at hl 3 rfl) ?_
          refine wy_get (ci := 3) (v := .ref (ma 6)) (C := RX2) (T := TX2) (N := 15) hx hb hts hinX2 hown hK hP hq.1 rfl 9 (by decide) (hts (.fieldLink RX2 36 "WheelpayModel" "charge" "[I") (by decide +kernel)) (fun _ h9 => h9) rfl dX2_spends_35 ?_
          refine lv_iload hx hb dX2_spends_38 (lv_at hl 0 rfl) ?_
          refine wy_iald hx hb hK hP hq.2.2.2.2.2.2.2.1 (10 * i + r) nx_4 (by omega) (by omega) dX2_spends_40 ?_
          rw [show g6 (10 * i + r) = rch (rr i) r from ((hm.1 i (by omega)).2.2.2.2.2 r (by omega)).2.1]
          refine lv_iload_n hx hb dX2_spends_41 rfl (lv_at hl 5 rfl) ?_
          refine lv_if_eq (tgt := 55) hx hb dX2_spends_42 (by decide) (fun c_8 => ?_) (fun c_8 => ?_)
          · have bc_8 : (bb) = false := bI_0 (rfl.symm.trans c_8)
            refine lv_iconst (v := 0) hx hb dX2_spends_55 (by decide) ?_
            refine lv_isub hx hb dX2_spends_56 ?_
            refine lv_topi (fun x_9 ex_9 => ?_)
            refine lv_goto (tgt := 61) hx hb dX2_spends_57 (by decide) ?_
            refine lv_iadd hx hb dX2_spends_61 ?_
            refine lv_topi (fun x_10 ex_10 => ?_)
            refine lv_istore_n (lv' := [(3, .int x_10), (5, .int x_4), (4, .int xi_i), (0, .ref om), (1, .int p1), (2, .int (bI bb))]) hx hb dX2_spends_62 rfl hl (by decide) rfl (fun ls hl => ?_)
            obtain ⟨x_11, ex_11⟩ : ∃ y : Int32, y = xi_i + 1 := ⟨_, rfl⟩
            have nx_11 : x_11 = nI (i + 1) := by rw [ex_11, ei_i, nI_1]
            refine lv_iinc (v := x_11) (lv' := [(4, .int x_11), (3, .int x_10), (5, .int x_4), (0, .ref om), (1, .int p1), (2, .int (bI bb))]) hx hb dX2_spends_63 hl (k := 2) rfl (by rw [ex_11]; rfl) (by decide) rfl (fun ls hl => ?_)
            refine lv_goto (tgt := 5) hx hb dX2_spends_66 (by decide) ?_
            exact ih_d (i + 1) (by omega) _ nx_11 _ (by simp [bx_sum, ha_s, ex_3, ex_4, ex_9, ex_10, ex_11, bc_5, bc_8]) ls (lv_sub hl [0, 1, 3, 4, 5] rfl)
          · have bc_8 : (bb) = true := bI_1 (fun z => c_8 (rfl.trans z))
            refine lv_aload_n hx hb dX2_spends_45 rfl (lv_at hl 3 rfl) ?_
            refine wy_get (ci := 3) (v := .ref (ma 8)) (C := RX2) (T := TX2) (N := 15) hx hb hts hinX2 hown hK hP hq.1 rfl 11 (by decide) (hts (.fieldLink RX2 42 "WheelpayModel" "refund" "[I") (by decide +kernel)) (fun _ h9 => h9) rfl dX2_spends_46 ?_
            refine lv_iload hx hb dX2_spends_49 (lv_at hl 0 rfl) ?_
            refine wy_iald hx hb hK hP hq.2.2.2.2.2.2.2.2.2.1 (10 * i + r) nx_4 (by omega) (by omega) dX2_spends_51 ?_
            rw [show g8 (10 * i + r) = rrf (rr i) r from ((hm.1 i (by omega)).2.2.2.2.2 r (by omega)).2.2.2]
            refine lv_goto (tgt := 56) hx hb dX2_spends_52 (by decide) ?_
            refine lv_isub hx hb dX2_spends_56 ?_
            refine lv_topi (fun x_12 ex_12 => ?_)
            refine lv_goto (tgt := 61) hx hb dX2_spends_57 (by decide) ?_
            refine lv_iadd hx hb dX2_spends_61 ?_
            refine lv_topi (fun x_13 ex_13 => ?_)
            refine lv_istore_n (lv' := [(3, .int x_13), (5, .int x_4), (4, .int xi_i), (0, .ref om), (1, .int p1), (2, .int (bI bb))]) hx hb dX2_spends_62 rfl hl (by decide) rfl (fun ls hl => ?_)
            obtain ⟨x_14, ex_14⟩ : ∃ y : Int32, y = xi_i + 1 := ⟨_, rfl⟩
            have nx_14 : x_14 = nI (i + 1) := by rw [ex_14, ei_i, nI_1]
            refine lv_iinc (v := x_14) (lv' := [(4, .int x_14), (3, .int x_13), (5, .int x_4), (0, .ref om), (1, .int p1), (2, .int (bI bb))]) hx hb dX2_spends_63 hl (k := 2) rfl (by rw [ex_14]; rfl) (by decide) rfl (fun ls hl => ?_)
            refine lv_goto (tgt := 5) hx hb dX2_spends_66 (by decide) ?_
            exact ih_d (i + 1) (by omega) _ nx_14 _ (by simp [bx_sum, ha_s, ex_3, ex_4, ex_12, ex_13, ex_14, bc_5, bc_8]) ls (lv_sub hl [0, 1, 3, 4, 5] rfl)
  exact KK (n) 0 (by omega) _ rfl _ rfl ls (lv_sub hl [0, 1, 2, 3, 4] rfl)
