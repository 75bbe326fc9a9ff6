/-! THE CLASS'S ANSWERS IN RANGE: contracts that read alone -/
theorem wy_vR {p : Program} {l : Launch} {e : Env} {R : Room} {s : State} {m : MethodId} {args : Array Value} {below : List Frame} {meth : Method} {c : Code} {cells slots : Nat} {cc : ByteArray} {pc : Nat} {ls : Array Slot} (hexec : p.tables.exec = Jvm.exec) (hb : c.code = cc) (hr : meth.sig.returnType = none) (hlocks : meth.locks = false) (hdg : decode cc pc = .ok (.return_, 1)) : W p l e R s m args below meth c s.heap [] cells slots (MQ below (va_Sv (fun _ => True)) args s cells slots (fun _ => False)) (F0 m pc ls []) :=
  W.vret hexec hb hr (fun t ht hW => ⟨rfl, trivial, ht⟩) (fun q hq => absurd hq List.not_mem_nil) hdg hlocks
set_option maxHeartbeats 4000000 in
set_option maxRecDepth 100000 in
theorem r_X1_checkRider (l : Launch) (p0 : Int32) (k : Nat) (hk : k < 10) (e0 : p0 = nI k) : Met l yX1_checkRider wsX1_checkRider ({ frames := 0, cells := 0, slots := 0, locals := 0 } : Room) (va_Pc [.int p0] (fun _ => True)) (va_Sv (fun _ => True)) 0 0 (fun _ => False) := by
  refine Met.ofW (cc := cX1_checkRider) (maxL := 1) (ret := none) (by decide) rfl ?_
  intro p e s m args below meth c s₁ B hml hv
  obtain ⟨rfl, -⟩ := hv
  have hx := B.exec
  have hb := B.bytes
  have hr := B.returns
  have hts := atoms_spec (ws := wsX1_checkRider) B.pre
  have hown : s.vm.findClass RX1 = some m.cls := findClass_of_methodNamed B.named
  have hlocks := B.notSynchronized
  have hl := lv_entry ([.int p0]) (n := 1) (Nat.le_of_ble_eq_true rfl)
  rw [lg_entry_eq]
  generalize (lg_sl ([.int p0]) ++ List.replicate (1 - (lg_sl ([.int p0])).length) Slot.unset).toArray = ls at hl ⊢
  have hl : lv_has ls 1 [(0, .int p0)] := hl
  refine lv_iload_n hx hb dX1_checkRider_0 rfl (lv_at hl 0 rfl) ?_
  refine lv_if_lt (tgt := 10) hx hb dX1_checkRider_1 (by decide) (fun c_1 => ?_) (fun c_1 => ?_)
  · exact absurd c_1 (by rw [e0]; exact nI_pos (by omega))
  · refine lv_iload_n hx hb dX1_checkRider_4 rfl (lv_at hl 0 rfl) ?_
    refine lv_bipush (v := 10) hx hb dX1_checkRider_5 (by decide) ?_
    refine lv_icmp_lt (tgt := 20) hx hb dX1_checkRider_7 (by decide) (fun c_2 => ?_) (fun c_2 => ?_)
    · have nc_2 : k < 10 := (wy_lt e0 (rfl : (10 : Int32) = nI 10) (by omega) (by decide)).mp c_2
      exact wy_vR hx hb hr hlocks dX1_checkRider_20
    · have nc_2 : ¬ (k < 10) := fun z => c_2 ((wy_lt e0 (rfl : (10 : Int32) = nI 10) (by omega) (by decide)).mpr z)
      exact absurd nc_2 (by omega)
set_option maxHeartbeats 4000000 in
set_option maxRecDepth 100000 in
theorem r_X1_checkDriver (l : Launch) (p0 : Int32) (k : Nat) (hk : k < 5) (e0 : p0 = nI k) : Met l yX1_checkDriver wsX1_checkDriver ({ frames := 0, cells := 0, slots := 0, locals := 0 } : Room) (va_Pc [.int p0] (fun _ => True)) (va_Sv (fun _ => True)) 0 0 (fun _ => False) := by
  refine Met.ofW (cc := cX1_checkDriver) (maxL := 1) (ret := none) (by decide) rfl ?_
  intro p e s m args below meth c s₁ B hml hv
  obtain ⟨rfl, -⟩ := hv
  have hx := B.exec
  have hb := B.bytes
  have hr := B.returns
  have hts := atoms_spec (ws := wsX1_checkDriver) B.pre
  have hown : s.vm.findClass RX1 = some m.cls := findClass_of_methodNamed B.named
  have hlocks := B.notSynchronized
  have hl := lv_entry ([.int p0]) (n := 1) (Nat.le_of_ble_eq_true rfl)
  rw [lg_entry_eq]
  generalize (lg_sl ([.int p0]) ++ List.replicate (1 - (lg_sl ([.int p0])).length) Slot.unset).toArray = ls at hl ⊢
  have hl : lv_has ls 1 [(0, .int p0)] := hl
  refine lv_iload_n hx hb dX1_checkDriver_0 rfl (lv_at hl 0 rfl) ?_
  refine lv_if_lt (tgt := 9) hx hb dX1_checkDriver_1 (by decide) (fun c_1 => ?_) (fun c_1 => ?_)
  · exact absurd c_1 (by rw [e0]; exact nI_pos (by omega))
  · refine lv_iload_n hx hb dX1_checkDriver_4 rfl (lv_at hl 0 rfl) ?_
    refine lv_iconst (v := 5) hx hb dX1_checkDriver_5 (by decide) ?_
    refine lv_icmp_lt (tgt := 19) hx hb dX1_checkDriver_6 (by decide) (fun c_2 => ?_) (fun c_2 => ?_)
    · have nc_2 : k < 5 := (wy_lt e0 (rfl : (5 : Int32) = nI 5) (by omega) (by decide)).mp c_2
      exact wy_vR hx hb hr hlocks dX1_checkDriver_19
    · have nc_2 : ¬ (k < 5) := fun z => c_2 ((wy_lt e0 (rfl : (5 : Int32) = nI 5) (by omega) (by decide)).mpr z)
      exact absurd nc_2 (by omega)
set_option maxHeartbeats 4000000 in
set_option maxRecDepth 100000 in
theorem r_X1_checkRange (l : Launch) (p0 p1 p2 : Int32) (k a b : Nat) (h1 : a ≤ k) (h2 : k ≤ b) (h3 : b < 2 ^ 31) (e0 : p0 = nI k) (e1 : p1 = nI a) (e2 : p2 = nI b) : Met l yX1_checkRange wsX1_checkRange ({ frames := 0, cells := 0, slots := 0, locals := 0 } : Room) (va_Pc [.int p0, .int p1, .int p2] (fun _ => True)) (va_Sv (fun _ => True)) 0 0 (fun _ => False) := by
  refine Met.ofW (cc := cX1_checkRange) (maxL := 3) (ret := none) (by decide) rfl ?_
  intro p e s m args below meth c s₁ B hml hv
  obtain ⟨rfl, -⟩ := hv
  have hx := B.exec
  have hb := B.bytes
  have hr := B.returns
  have hts := atoms_spec (ws := wsX1_checkRange) B.pre
  have hown : s.vm.findClass RX1 = some m.cls := findClass_of_methodNamed B.named
  have hlocks := B.notSynchronized
  have hl := lv_entry ([.int p0, .int p1, .int p2]) (n := 3) (Nat.le_of_ble_eq_true rfl)
  rw [lg_entry_eq]
  generalize (lg_sl ([.int p0, .int p1, .int p2]) ++ List.replicate (3 - (lg_sl ([.int p0, .int p1, .int p2])).length) Slot.unset).toArray = ls at hl ⊢
  have hl : lv_has ls 3 [(0, .int p0), (1, .int p1), (2, .int p2)] := hl
  refine lv_iload_n hx hb dX1_checkRange_0 rfl (lv_at hl 0 rfl) ?_
  refine lv_iload_n hx hb dX1_checkRange_1 rfl (lv_at hl 1 rfl) ?_
  refine lv_icmp_lt (tgt := 10) hx hb dX1_checkRange_2 (by decide) (fun c_1 => ?_) (fun c_1 => ?_)
  · have nc_1 : k < a := (wy_lt e0 e1 (by omega) (by omega)).mp c_1
    exact absurd nc_1 (by omega)
  · have nc_1 : ¬ (k < a) := fun z => c_1 ((wy_lt e0 e1 (by omega) (by omega)).mpr z)
    refine lv_iload_n hx hb dX1_checkRange_5 rfl (lv_at hl 0 rfl) ?_
    refine lv_iload_n hx hb dX1_checkRange_6 rfl (lv_at hl 2 rfl) ?_
    refine lv_icmp_le (tgt := 20) hx hb dX1_checkRange_7 (by decide) (fun c_2 => ?_) (fun c_2 => ?_)
    · have nc_2 : k ≤ b := (wy_le e0 e2 (by omega) (by omega)).mp c_2
      exact wy_vR hx hb hr hlocks dX1_checkRange_20
    · have nc_2 : ¬ (k ≤ b) := fun z => c_2 ((wy_le e0 e2 (by omega) (by omega)).mpr z)
      exact absurd nc_2 (by omega)
set_option maxHeartbeats 4000000 in
set_option maxRecDepth 100000 in
theorem r_X1_existingRide (l : Launch) {G : wy_G} {L : List Nat} {f : Nat → va_E} {ox lo : Nat} {ra ar : Nat → Nat} {n : Nat} {km mn : Int32} {wk : Nat} {po : Nat → Int32} {rr : Nat → wr_V} (hq : wx_S G L f ox lo ra ar n km mn wk po rr) (p1 : Int32) (k : Nat) (hk : k < n) (e1 : p1 = nI k) : Met l yX1_existingRide wsX1_existingRide ({ frames := 3, cells := 0, slots := 0, locals := 64 } : Room) (va_Pc [.ref ox, .int p1] (wy_R G L f)) (va_Sr (fun z => z = ra k) Value.ref) 0 0 (fun _ => False) := by
  refine Met.ofW (cc := cX1_existingRide) (maxL := 2) (ret := (some (.object "Wheelpay$Ride"))) (by decide) rfl ?_
  intro p e s m args below meth c s₁ B hml hv
  obtain ⟨rfl, hP, hK⟩ := hv
  have hx := B.exec
  have hb := B.bytes
  have hr := B.returns
  have hts := atoms_spec (ws := wsX1_existingRide) B.pre
  have hown : s.vm.findClass RX1 = some m.cls := findClass_of_methodNamed B.named
  have hlocks := B.notSynchronized
  have hinX1 : ∀ w ∈ wsX10, w ∈ wsX1_existingRide := by decide +kernel
  obtain ⟨md, he, cap, gg, hL1, -⟩ := id hq.2.1
  have hn : n ≤ 40 := hq.2.2.2.2.1
  have hwk : wk ≤ 20 := hq.2.2.2.2.2.1
  have hl := lv_entry ([.ref ox, .int p1]) (n := 2) (Nat.le_of_ble_eq_true rfl)
  rw [lg_entry_eq]
  generalize (lg_sl ([.ref ox, .int p1]) ++ List.replicate (2 - (lg_sl ([.ref ox, .int p1])).length) Slot.unset).toArray = ls at hl ⊢
  have hl : lv_has ls 2 [(0, .ref ox), (1, .int p1)] := hl
  refine lv_iload_n hx hb dX1_existingRide_0 rfl (lv_at hl 1 rfl) ?_
  refine lv_if_lt (tgt := 15) hx hb dX1_existingRide_1 (by decide) (fun c_1 => ?_) (fun c_1 => ?_)
  · exact absurd c_1 (by rw [e1]; exact nI_pos (by omega))
  · refine lv_iload_n hx hb dX1_existingRide_4 rfl (lv_at hl 1 rfl) ?_
    refine lv_aload_n hx hb dX1_existingRide_5 rfl (lv_at hl 0 rfl) ?_
    refine wy_get (ci := 2) (v := .ref lo) (C := RX1) (T := TX1) (N := 5) hx hb hts hinX1 hown hK hP hq.1 rfl 0 (by decide) (hts (.fieldLink RX1 10 "Wheelpay" "rides" "Ljava/util/ArrayList;") (by decide +kernel)) (fun _ h9 => h9) rfl dX1_existingRide_6 ?_
    refine vp_callSi (W.runV (As := []) (rest := [.int p1]) ⟨hx, hb, hml, hown, hts⟩ (m_Jx4a65c_size_8abf5 l hq.2.1) (cwV 0 hts gX1_existingRide_Jx4a65c_size_8abf5 rfl rfl rfl (by decide +kernel) ⟨Nat.le_of_ble_eq_true rfl, Nat.le_of_ble_eq_true rfl⟩) (wy_pVR hK hP hL1 rfl) rfl rfl hl.1 rfl (lv_room (Nat.le_of_ble_eq_true rfl)) dX1_existingRide_9 ⟨Nat.le_of_ble_eq_true rfl, Nat.le_of_ble_eq_true rfl⟩) (fun r_2 er_2 => ?_)
    refine lv_icmp_lt (tgt := 25) hx hb dX1_existingRide_12 (by decide) (fun c_3 => ?_) (fun c_3 => ?_)
    · have nc_3 : k < n := (wy_lt e1 er_2 (by omega) (by omega)).mp c_3
      refine lv_aload_n hx hb dX1_existingRide_25 rfl (lv_at hl 0 rfl) ?_
      refine wy_get (ci := 2) (v := .ref lo) (C := RX1) (T := TX1) (N := 5) hx hb hts hinX1 hown hK hP hq.1 rfl 0 (by decide) (hts (.fieldLink RX1 10 "Wheelpay" "rides" "Ljava/util/ArrayList;") (by decide +kernel)) (fun _ h9 => h9) rfl dX1_existingRide_26 ?_
      refine lv_iload_n hx hb dX1_existingRide_29 rfl (lv_at hl 1 rfl) ?_
      refine va_csr (W.runV (As := [.int p1]) (rest := []) ⟨hx, hb, hml, hown, hts⟩ (m_Jx4a65c_get_915e3 l hq.2.1 (p1) (k) (by omega) e1) (cwV 1 hts gX1_existingRide_Jx4a65c_get_915e3 rfl rfl rfl (by decide +kernel) ⟨Nat.le_of_ble_eq_true rfl, Nat.le_of_ble_eq_true rfl⟩) (wy_pVR hK hP hL1 rfl) rfl rfl hl.1 rfl (lv_room (Nat.le_of_ble_eq_true rfl)) dX1_existingRide_30 ⟨Nat.le_of_ble_eq_true rfl, Nat.le_of_ble_eq_true rfl⟩) (fun r_4 er_4 => ?_)
      subst er_4
      refine wy_cast (ci := 1) hx hb hown (hts (.classLink RX1 55 "Wheelpay$Ride") (by decide +kernel)) hK hP (hq.2.2.2.1 (k) (by omega)).1 rfl dX1_existingRide_33 ?_
      exact wy_aR rfl hx hb hr (Or.inl ⟨_, rfl⟩) hlocks dX1_existingRide_36
    · have nc_3 : ¬ (k < n) := fun z => c_3 ((wy_lt e1 er_2 (by omega) (by omega)).mpr z)
      exact absurd nc_3 (by omega)
set_option maxHeartbeats 4000000 in
set_option maxRecDepth 100000 in
theorem r_X1_charge (l : Launch) {G : wy_G} {L : List Nat} {f : Nat → va_E} {ox lo : Nat} {ra ar : Nat → Nat} {n : Nat} {km mn : Int32} {wk : Nat} {po : Nat → Int32} {rr : Nat → wr_V} (hq : wx_S G L f ox lo ra ar n km mn wk po rr) (p1 p2 : Int32) (k j : Nat) (hk : k < n) (hj : j < 10) (e1 : p1 = nI k) (e2 : p2 = nI j) : Met l yX1_charge wsX1_charge ({ frames := 4, cells := 0, slots := 0, locals := 85 } : Room) (va_Pc [.ref ox, .int p1, .int p2] (wy_R G L f)) (vp_Si (fun z => z = rch (rr k) j)) 0 0 (fun _ => False) := by
  refine Met.ofW (cc := cX1_charge) (maxL := 4) (ret := (some .int)) (by decide) rfl ?_
  intro p e s m args below meth c s₁ B hml hv
  obtain ⟨rfl, hP, hK⟩ := hv
  have hx := B.exec
  have hb := B.bytes
  have hr := B.returns
  have hts := atoms_spec (ws := wsX1_charge) B.pre
  have hown : s.vm.findClass RX1 = some m.cls := findClass_of_methodNamed B.named
  have hlocks := B.notSynchronized
  obtain ⟨md, he, cap, gg, hL1, -⟩ := id hq.2.1
  have hn : n ≤ 40 := hq.2.2.2.2.1
  have hwk : wk ≤ 20 := hq.2.2.2.2.2.1
  have hl := lv_entry ([.ref ox, .int p1, .int p2]) (n := 4) (Nat.le_of_ble_eq_true rfl)
  rw [lg_entry_eq]
  generalize (lg_sl ([.ref ox, .int p1, .int p2]) ++ List.replicate (4 - (lg_sl ([.ref ox, .int p1, .int p2])).length) Slot.unset).toArray = ls at hl ⊢
  have hl : lv_has ls 4 [(0, .ref ox), (1, .int p1), (2, .int p2)] := hl
  refine lv_aload_n hx hb dX1_charge_0 rfl (lv_at hl 0 rfl) ?_
  refine lv_iload_n hx hb dX1_charge_1 rfl (lv_at hl 1 rfl) ?_
  refine va_csr (W.runV (As := [.int p1]) (rest := []) ⟨hx, hb, hml, hown, hts⟩ (r_X1_existingRide l hq (p1) (k) (by omega) e1) (cwV 1 hts gX1_charge_X1_existingRide rfl rfl rfl (by decide +kernel) ⟨Nat.le_of_ble_eq_true rfl, Nat.le_of_ble_eq_true rfl⟩) (wy_pVR hK hP hq.1 rfl) rfl rfl hl.1 rfl (lv_room (Nat.le_of_ble_eq_true rfl)) dX1_charge_2 ⟨Nat.le_of_ble_eq_true rfl, Nat.le_of_ble_eq_true rfl⟩) (fun r_1 er_1 => ?_)
  subst er_1
  refine lv_astore_n (lv' := [(3, .ref (ra (k))), (0, .ref ox), (1, .int p1), (2, .int p2)]) hx hb dX1_charge_5 rfl hl (by decide) rfl (fun ls hl => ?_)
  refine lv_iload_n hx hb dX1_charge_6 rfl (lv_at hl 3 rfl) ?_
  refine va_csv (W.runS (As := [.int p2]) (rest := []) ⟨hx, hb, hml, hown, hts⟩ (r_X1_checkRider l (p2) (j) (by omega) e2) (va_cwS 1 hts gX1_charge_X1_checkRider rfl rfl rfl (by decide +kernel) ⟨Nat.le_of_ble_eq_true rfl, Nat.le_of_ble_eq_true rfl⟩) (wy_pSN) rfl rfl hl.1 rfl (lv_room (Nat.le_of_ble_eq_true rfl)) dX1_charge_7 ⟨Nat.le_of_ble_eq_true rfl, Nat.le_of_ble_eq_true rfl⟩) (fun _ => ?_)
  refine lv_aload_n hx hb dX1_charge_10 rfl (lv_at hl 0 rfl) ?_
  refine lv_iload_n hx hb dX1_charge_11 rfl (lv_at hl 3 rfl) ?_
  refine vp_callSi (W.runV (As := [.int p2]) (rest := []) ⟨hx, hb, hml, hown, hts⟩ (m_X0_chargeOf l (hq.2.2.2.1 (k) (by omega)) (p2) (j) (by omega) e2) (cwV 1 hts gX1_charge_X0_chargeOf rfl rfl rfl (by decide +kernel) ⟨Nat.le_of_ble_eq_true rfl, Nat.le_of_ble_eq_true rfl⟩) (wy_pVR hK hP (hq.2.2.2.1 (k) (by omega)).1 rfl) rfl rfl hl.1 rfl (lv_room (Nat.le_of_ble_eq_true rfl)) dX1_charge_12 ⟨Nat.le_of_ble_eq_true rfl, Nat.le_of_ble_eq_true rfl⟩) (fun r_2 er_2 => ?_)
  exact wy_iR (by simp only [er_2]) hx hb hr hlocks dX1_charge_15
set_option maxHeartbeats 4000000 in
set_option maxRecDepth 100000 in
theorem r_X1_aboard (l : Launch) {G : wy_G} {L : List Nat} {f : Nat → va_E} {ox lo : Nat} {ra ar : Nat → Nat} {n : Nat} {km mn : Int32} {wk : Nat} {po : Nat → Int32} {rr : Nat → wr_V} (hq : wx_S G L f ox lo ra ar n km mn wk po rr) (p1 : Int32) (k : Nat) (hk : k < n) (e1 : p1 = nI k) : Met l yX1_aboard wsX1_aboard ({ frames := 4, cells := 0, slots := 0, locals := 85 } : Room) (va_Pc [.ref ox, .int p1] (wy_R G L f)) (vp_Si (fun z => z = mks (rsd (rr k)))) 0 0 (fun _ => False) := by
  refine Met.ofW (cc := cX1_aboard) (maxL := 2) (ret := (some .int)) (by decide) rfl ?_
  intro p e s m args below meth c s₁ B hml hv
  obtain ⟨rfl, hP, hK⟩ := hv
  have hx := B.exec
  have hb := B.bytes
  have hr := B.returns
  have hts := atoms_spec (ws := wsX1_aboard) B.pre
  have hown : s.vm.findClass RX1 = some m.cls := findClass_of_methodNamed B.named
  have hlocks := B.notSynchronized
  obtain ⟨md, he, cap, gg, hL1, -⟩ := id hq.2.1
  have hn : n ≤ 40 := hq.2.2.2.2.1
  have hwk : wk ≤ 20 := hq.2.2.2.2.2.1
  have hl := lv_entry ([.ref ox, .int p1]) (n := 2) (Nat.le_of_ble_eq_true rfl)
  rw [lg_entry_eq]
  generalize (lg_sl ([.ref ox, .int p1]) ++ List.replicate (2 - (lg_sl ([.ref ox, .int p1])).length) Slot.unset).toArray = ls at hl ⊢
  have hl : lv_has ls 2 [(0, .ref ox), (1, .int p1)] := hl
  refine lv_aload_n hx hb dX1_aboard_0 rfl (lv_at hl 0 rfl) ?_
  refine lv_iload_n hx hb dX1_aboard_1 rfl (lv_at hl 1 rfl) ?_
  refine va_csr (W.runV (As := [.int p1]) (rest := []) ⟨hx, hb, hml, hown, hts⟩ (r_X1_existingRide l hq (p1) (k) (by omega) e1) (cwV 1 hts gX1_aboard_X1_existingRide rfl rfl rfl (by decide +kernel) ⟨Nat.le_of_ble_eq_true rfl, Nat.le_of_ble_eq_true rfl⟩) (wy_pVR hK hP hq.1 rfl) rfl rfl hl.1 rfl (lv_room (Nat.le_of_ble_eq_true rfl)) dX1_aboard_2 ⟨Nat.le_of_ble_eq_true rfl, Nat.le_of_ble_eq_true rfl⟩) (fun r_1 er_1 => ?_)
  subst er_1
  refine vp_callSi (W.runV (As := []) (rest := []) ⟨hx, hb, hml, hown, hts⟩ (m_X0_ridersAboard l (hq.2.2.2.1 (k) (by omega))) (cwV 0 hts gX1_aboard_X0_ridersAboard rfl rfl rfl (by decide +kernel) ⟨Nat.le_of_ble_eq_true rfl, Nat.le_of_ble_eq_true rfl⟩) (wy_pVR hK hP (hq.2.2.2.1 (k) (by omega)).1 rfl) rfl rfl hl.1 rfl (lv_room (Nat.le_of_ble_eq_true rfl)) dX1_aboard_5 ⟨Nat.le_of_ble_eq_true rfl, Nat.le_of_ble_eq_true rfl⟩) (fun r_2 er_2 => ?_)
  exact wy_iR (by simp only [er_2]) hx hb hr hlocks dX1_aboard_8
set_option maxHeartbeats 4000000 in
set_option maxRecDepth 100000 in
theorem r_X1_isVoid (l : Launch) {G : wy_G} {L : List Nat} {f : Nat → va_E} {ox lo : Nat} {ra ar : Nat → Nat} {n : Nat} {km mn : Int32} {wk : Nat} {po : Nat → Int32} {rr : Nat → wr_V} (hq : wx_S G L f ox lo ra ar n km mn wk po rr) (p1 : Int32) (k : Nat) (hk : k < n) (e1 : p1 = nI k) : Met l yX1_isVoid wsX1_isVoid ({ frames := 4, cells := 0, slots := 0, locals := 85 } : Room) (va_Pc [.ref ox, .int p1] (wy_R G L f)) (vp_Si (fun z => z = bI (voidR (rr k)))) 0 0 (fun _ => False) := by
  refine Met.ofW (cc := cX1_isVoid) (maxL := 2) (ret := (some .boolean)) (by decide) rfl ?_
  intro p e s m args below meth c s₁ B hml hv
  obtain ⟨rfl, hP, hK⟩ := hv
  have hx := B.exec
  have hb := B.bytes
  have hr := B.returns
  have hts := atoms_spec (ws := wsX1_isVoid) B.pre
  have hown : s.vm.findClass RX1 = some m.cls := findClass_of_methodNamed B.named
  have hlocks := B.notSynchronized
  obtain ⟨md, he, cap, gg, hL1, -⟩ := id hq.2.1
  have hn : n ≤ 40 := hq.2.2.2.2.1
  have hwk : wk ≤ 20 := hq.2.2.2.2.2.1
  have hl := lv_entry ([.ref ox, .int p1]) (n := 2) (Nat.le_of_ble_eq_true rfl)
  rw [lg_entry_eq]
  generalize (lg_sl ([.ref ox, .int p1]) ++ List.replicate (2 - (lg_sl ([.ref ox, .int p1])).length) Slot.unset).toArray = ls at hl ⊢
  have hl : lv_has ls 2 [(0, .ref ox), (1, .int p1)] := hl
  refine lv_aload_n hx hb dX1_isVoid_0 rfl (lv_at hl 0 rfl) ?_
  refine lv_iload_n hx hb dX1_isVoid_1 rfl (lv_at hl 1 rfl) ?_
  refine va_csr (W.runV (As := [.int p1]) (rest := []) ⟨hx, hb, hml, hown, hts⟩ (r_X1_existingRide l hq (p1) (k) (by omega) e1) (cwV 1 hts gX1_isVoid_X1_existingRide rfl rfl rfl (by decide +kernel) ⟨Nat.le_of_ble_eq_true rfl, Nat.le_of_ble_eq_true rfl⟩) (wy_pVR hK hP hq.1 rfl) rfl rfl hl.1 rfl (lv_room (Nat.le_of_ble_eq_true rfl)) dX1_isVoid_2 ⟨Nat.le_of_ble_eq_true rfl, Nat.le_of_ble_eq_true rfl⟩) (fun r_1 er_1 => ?_)
  subst er_1
  refine vp_callSi (W.runV (As := []) (rest := []) ⟨hx, hb, hml, hown, hts⟩ (m_X0_countsAsVoid l (hq.2.2.2.1 (k) (by omega))) (cwV 0 hts gX1_isVoid_X0_countsAsVoid rfl rfl rfl (by decide +kernel) ⟨Nat.le_of_ble_eq_true rfl, Nat.le_of_ble_eq_true rfl⟩) (wy_pVR hK hP (hq.2.2.2.1 (k) (by omega)).1 rfl) rfl rfl hl.1 rfl (lv_room (Nat.le_of_ble_eq_true rfl)) dX1_isVoid_5 ⟨Nat.le_of_ble_eq_true rfl, Nat.le_of_ble_eq_true rfl⟩) (fun r_2 er_2 => ?_)
  exact wy_zR er_2 hx hb hr hlocks dX1_isVoid_8
set_option maxHeartbeats 4000000 in
set_option maxRecDepth 100000 in
theorem r_X1_earnings (l : Launch) {G : wy_G} {L : List Nat} {f : Nat → va_E} {ox lo : Nat} {ra ar : Nat → Nat} {n : Nat} {km mn : Int32} {wk : Nat} {po : Nat → Int32} {rr : Nat → wr_V} (hq : wx_S G L f ox lo ra ar n km mn wk po rr) (p1 p2 : Int32) (k j : Nat) (hk : k < 5) (hj : j ≤ wk) (e1 : p1 = nI k) (e2 : p2 = nI j) : Met l yX1_earnings wsX1_earnings ({ frames := 4, cells := 0, slots := 0, locals := 90 } : Room) (va_Pc [.ref ox, .int p1, .int p2] (wy_R G L f)) (vp_Si (fun z => z = earnS rr n p1 p2)) 0 0 (fun _ => False) := by
  refine Met.ofW (cc := cX1_earnings) (maxL := 3) (ret := (some .int)) (by decide) rfl ?_
  intro p e s m args below meth c s₁ B hml hv
  obtain ⟨rfl, hP, hK⟩ := hv
  have hx := B.exec
  have hb := B.bytes
  have hr := B.returns
  have hts := atoms_spec (ws := wsX1_earnings) B.pre
  have hown : s.vm.findClass RX1 = some m.cls := findClass_of_methodNamed B.named
  have hlocks := B.notSynchronized
  have hinX1 : ∀ w ∈ wsX10, w ∈ wsX1_earnings := by decide +kernel
  obtain ⟨md, he, cap, gg, hL1, -⟩ := id hq.2.1
  have hn : n ≤ 40 := hq.2.2.2.2.1
  have hwk : wk ≤ 20 := hq.2.2.2.2.2.1
  have hl := lv_entry ([.ref ox, .int p1, .int p2]) (n := 3) (Nat.le_of_ble_eq_true rfl)
  rw [lg_entry_eq]
  generalize (lg_sl ([.ref ox, .int p1, .int p2]) ++ List.replicate (3 - (lg_sl ([.ref ox, .int p1, .int p2])).length) Slot.unset).toArray = ls at hl ⊢
  have hl : lv_has ls 3 [(0, .ref ox), (1, .int p1), (2, .int p2)] := hl
  refine lv_iload_n hx hb dX1_earnings_0 rfl (lv_at hl 1 rfl) ?_
  refine va_csv (W.runS (As := [.int p1]) (rest := []) ⟨hx, hb, hml, hown, hts⟩ (r_X1_checkDriver l (p1) (k) (by omega) e1) (va_cwS 1 hts gX1_earnings_X1_checkDriver rfl rfl rfl (by decide +kernel) ⟨Nat.le_of_ble_eq_true rfl, Nat.le_of_ble_eq_true rfl⟩) (wy_pSN) rfl rfl hl.1 rfl (lv_room (Nat.le_of_ble_eq_true rfl)) dX1_earnings_1 ⟨Nat.le_of_ble_eq_true rfl, Nat.le_of_ble_eq_true rfl⟩) (fun _ => ?_)
  refine lv_iload_n hx hb dX1_earnings_4 rfl (lv_at hl 2 rfl) ?_
  refine lv_iconst (v := 0) hx hb dX1_earnings_5 (by decide) ?_
  refine lv_aload_n hx hb dX1_earnings_6 rfl (lv_at hl 0 rfl) ?_
  refine wy_get (ci := 2) (v := .int (nI wk)) (C := RX1) (T := TX1) (N := 5) hx hb hts hinX1 hown hK hP hq.1 rfl 4 (by decide) (hts (.fieldLink RX1 27 "Wheelpay" "presentWeek" "I") (by decide +kernel)) (fun _ h9 => h9) rfl dX1_earnings_7 ?_
  refine va_csv (W.runS (As := [.int p2, .int 0, .int (nI wk)]) (rest := []) ⟨hx, hb, hml, hown, hts⟩ (r_X1_checkRange l (p2) (0) (nI wk) (j) (0) (wk) (by omega) (by omega) (by omega) e2 (rfl : (0 : Int32) = nI 0) rfl) (va_cwS 3 hts gX1_earnings_X1_checkRange rfl rfl rfl (by decide +kernel) ⟨Nat.le_of_ble_eq_true rfl, Nat.le_of_ble_eq_true rfl⟩) (wy_pSN) rfl rfl hl.1 rfl (lv_room (Nat.le_of_ble_eq_true rfl)) dX1_earnings_10 ⟨Nat.le_of_ble_eq_true rfl, Nat.le_of_ble_eq_true rfl⟩) (fun _ => ?_)
  refine lv_aload_n hx hb dX1_earnings_13 rfl (lv_at hl 0 rfl) ?_
  refine lv_iload_n hx hb dX1_earnings_14 rfl (lv_at hl 1 rfl) ?_
  refine lv_iload_n hx hb dX1_earnings_15 rfl (lv_at hl 2 rfl) ?_
  refine vp_callSi (W.runV (As := [.int p1, .int p2]) (rest := []) ⟨hx, hb, hml, hown, hts⟩ (m_X1_earningsFor l hq (p1) (p2)) (cwV 2 hts gX1_earnings_X1_earningsFor rfl rfl rfl (by decide +kernel) ⟨Nat.le_of_ble_eq_true rfl, Nat.le_of_ble_eq_true rfl⟩) (wy_pVR hK hP hq.1 rfl) rfl rfl hl.1 rfl (lv_room (Nat.le_of_ble_eq_true rfl)) dX1_earnings_16 ⟨Nat.le_of_ble_eq_true rfl, Nat.le_of_ble_eq_true rfl⟩) (fun r_1 er_1 => ?_)
  exact wy_iR (by simp only [er_1]) hx hb hr hlocks dX1_earnings_19
set_option maxHeartbeats 4000000 in
set_option maxRecDepth 100000 in
theorem r_X1_topUp (l : Launch) {G : wy_G} {L : List Nat} {f : Nat → va_E} {ox lo : Nat} {ra ar : Nat → Nat} {n : Nat} {km mn : Int32} {wk : Nat} {po : Nat → Int32} {rr : Nat → wr_V} (hq : wx_S G L f ox lo ra ar n km mn wk po rr) (p1 p2 : Int32) (k j : Nat) (hk : k < 5) (hj : j ≤ wk) (e1 : p1 = nI k) (e2 : p2 = nI j) : Met l yX1_topUp wsX1_topUp ({ frames := 5, cells := 0, slots := 0, locals := 112 } : Room) (va_Pc [.ref ox, .int p1, .int p2] (wy_R G L f)) (vp_Si (fun z => z = topS rr n p1 p2)) 0 0 (fun _ => False) := by
  refine Met.ofW (cc := cX1_topUp) (maxL := 3) (ret := (some .int)) (by decide) rfl ?_
  intro p e s m args below meth c s₁ B hml hv
  obtain ⟨rfl, hP, hK⟩ := hv
  have hx := B.exec
  have hb := B.bytes
  have hr := B.returns
  have hts := atoms_spec (ws := wsX1_topUp) B.pre
  have hown : s.vm.findClass RX1 = some m.cls := findClass_of_methodNamed B.named
  have hlocks := B.notSynchronized
  have hinX1 : ∀ w ∈ wsX10, w ∈ wsX1_topUp := by decide +kernel
  obtain ⟨md, he, cap, gg, hL1, -⟩ := id hq.2.1
  have hn : n ≤ 40 := hq.2.2.2.2.1
  have hwk : wk ≤ 20 := hq.2.2.2.2.2.1
  have hl := lv_entry ([.ref ox, .int p1, .int p2]) (n := 3) (Nat.le_of_ble_eq_true rfl)
  rw [lg_entry_eq]
  generalize (lg_sl ([.ref ox, .int p1, .int p2]) ++ List.replicate (3 - (lg_sl ([.ref ox, .int p1, .int p2])).length) Slot.unset).toArray = ls at hl ⊢
  have hl : lv_has ls 3 [(0, .ref ox), (1, .int p1), (2, .int p2)] := hl
  refine lv_iload_n hx hb dX1_topUp_0 rfl (lv_at hl 1 rfl) ?_
  refine va_csv (W.runS (As := [.int p1]) (rest := []) ⟨hx, hb, hml, hown, hts⟩ (r_X1_checkDriver l (p1) (k) (by omega) e1) (va_cwS 1 hts gX1_topUp_X1_checkDriver rfl rfl rfl (by decide +kernel) ⟨Nat.le_of_ble_eq_true rfl, Nat.le_of_ble_eq_true rfl⟩) (wy_pSN) rfl rfl hl.1 rfl (lv_room (Nat.le_of_ble_eq_true rfl)) dX1_topUp_1 ⟨Nat.le_of_ble_eq_true rfl, Nat.le_of_ble_eq_true rfl⟩) (fun _ => ?_)
  refine lv_iload_n hx hb dX1_topUp_4 rfl (lv_at hl 2 rfl) ?_
  refine lv_iconst (v := 0) hx hb dX1_topUp_5 (by decide) ?_
  refine lv_aload_n hx hb dX1_topUp_6 rfl (lv_at hl 0 rfl) ?_
  refine wy_get (ci := 2) (v := .int (nI wk)) (C := RX1) (T := TX1) (N := 5) hx hb hts hinX1 hown hK hP hq.1 rfl 4 (by decide) (hts (.fieldLink RX1 27 "Wheelpay" "presentWeek" "I") (by decide +kernel)) (fun _ h9 => h9) rfl dX1_topUp_7 ?_
  refine va_csv (W.runS (As := [.int p2, .int 0, .int (nI wk)]) (rest := []) ⟨hx, hb, hml, hown, hts⟩ (r_X1_checkRange l (p2) (0) (nI wk) (j) (0) (wk) (by omega) (by omega) (by omega) e2 (rfl : (0 : Int32) = nI 0) rfl) (va_cwS 3 hts gX1_topUp_X1_checkRange rfl rfl rfl (by decide +kernel) ⟨Nat.le_of_ble_eq_true rfl, Nat.le_of_ble_eq_true rfl⟩) (wy_pSN) rfl rfl hl.1 rfl (lv_room (Nat.le_of_ble_eq_true rfl)) dX1_topUp_10 ⟨Nat.le_of_ble_eq_true rfl, Nat.le_of_ble_eq_true rfl⟩) (fun _ => ?_)
  refine lv_aload_n hx hb dX1_topUp_13 rfl (lv_at hl 0 rfl) ?_
  refine lv_aload_n hx hb dX1_topUp_14 rfl (lv_at hl 0 rfl) ?_
  refine lv_iload_n hx hb dX1_topUp_15 rfl (lv_at hl 1 rfl) ?_
  refine lv_iload_n hx hb dX1_topUp_16 rfl (lv_at hl 2 rfl) ?_
  refine vp_callSi (W.runV (As := [.int p1, .int p2]) (rest := [.ref ox]) ⟨hx, hb, hml, hown, hts⟩ (m_X1_earningsFor l hq (p1) (p2)) (cwV 2 hts gX1_topUp_X1_earningsFor rfl rfl rfl (by decide +kernel) ⟨Nat.le_of_ble_eq_true rfl, Nat.le_of_ble_eq_true rfl⟩) (wy_pVR hK hP hq.1 rfl) rfl rfl hl.1 rfl (lv_room (Nat.le_of_ble_eq_true rfl)) dX1_topUp_17 ⟨Nat.le_of_ble_eq_true rfl, Nat.le_of_ble_eq_true rfl⟩) (fun r_1 er_1 => ?_)
  refine lv_iload_n hx hb dX1_topUp_20 rfl (lv_at hl 1 rfl) ?_
  refine lv_iload_n hx hb dX1_topUp_21 rfl (lv_at hl 2 rfl) ?_
  refine vp_callSi (W.runV (As := [.int r_1, .int p1, .int p2]) (rest := []) ⟨hx, hb, hml, hown, hts⟩ (m_X1_topUpOn l hq (r_1) (p1) (p2) er_1) (cwV 3 hts gX1_topUp_X1_topUpOn rfl rfl rfl (by decide +kernel) ⟨Nat.le_of_ble_eq_true rfl, Nat.le_of_ble_eq_true rfl⟩) (wy_pVR hK hP hq.1 rfl) rfl rfl hl.1 rfl (lv_room (Nat.le_of_ble_eq_true rfl)) dX1_topUp_22 ⟨Nat.le_of_ble_eq_true rfl, Nat.le_of_ble_eq_true rfl⟩) (fun r_2 er_2 => ?_)
  exact wy_iR (by simp only [er_1, er_2]) hx hb hr hlocks dX1_topUp_25
set_option maxHeartbeats 4000000 in
set_option maxRecDepth 100000 in
theorem r_X1_bonus (l : Launch) {G : wy_G} {L : List Nat} {f : Nat → va_E} {ox lo : Nat} {ra ar : Nat → Nat} {n : Nat} {km mn : Int32} {wk : Nat} {po : Nat → Int32} {rr : Nat → wr_V} (hq : wx_S G L f ox lo ra ar n km mn wk po rr) (p1 p2 : Int32) (k j : Nat) (hk : k < 5) (hj : j ≤ wk) (e1 : p1 = nI k) (e2 : p2 = nI j) : Met l yX1_bonus wsX1_bonus ({ frames := 4, cells := 0, slots := 0, locals := 89 } : Room) (va_Pc [.ref ox, .int p1, .int p2] (wy_R G L f)) (vp_Si (fun z => z = bonS rr n p1 p2)) 0 0 (fun _ => False) := by
  refine Met.ofW (cc := cX1_bonus) (maxL := 3) (ret := (some .int)) (by decide) rfl ?_
  intro p e s m args below meth c s₁ B hml hv
  obtain ⟨rfl, hP, hK⟩ := hv
  have hx := B.exec
  have hb := B.bytes
  have hr := B.returns
  have hts := atoms_spec (ws := wsX1_bonus) B.pre
  have hown : s.vm.findClass RX1 = some m.cls := findClass_of_methodNamed B.named
  have hlocks := B.notSynchronized
  have hinX1 : ∀ w ∈ wsX10, w ∈ wsX1_bonus := by decide +kernel
  obtain ⟨md, he, cap, gg, hL1, -⟩ := id hq.2.1
  have hn : n ≤ 40 := hq.2.2.2.2.1
  have hwk : wk ≤ 20 := hq.2.2.2.2.2.1
  have hl := lv_entry ([.ref ox, .int p1, .int p2]) (n := 3) (Nat.le_of_ble_eq_true rfl)
  rw [lg_entry_eq]
  generalize (lg_sl ([.ref ox, .int p1, .int p2]) ++ List.replicate (3 - (lg_sl ([.ref ox, .int p1, .int p2])).length) Slot.unset).toArray = ls at hl ⊢
  have hl : lv_has ls 3 [(0, .ref ox), (1, .int p1), (2, .int p2)] := hl
  refine lv_iload_n hx hb dX1_bonus_0 rfl (lv_at hl 1 rfl) ?_
  refine va_csv (W.runS (As := [.int p1]) (rest := []) ⟨hx, hb, hml, hown, hts⟩ (r_X1_checkDriver l (p1) (k) (by omega) e1) (va_cwS 1 hts gX1_bonus_X1_checkDriver rfl rfl rfl (by decide +kernel) ⟨Nat.le_of_ble_eq_true rfl, Nat.le_of_ble_eq_true rfl⟩) (wy_pSN) rfl rfl hl.1 rfl (lv_room (Nat.le_of_ble_eq_true rfl)) dX1_bonus_1 ⟨Nat.le_of_ble_eq_true rfl, Nat.le_of_ble_eq_true rfl⟩) (fun _ => ?_)
  refine lv_iload_n hx hb dX1_bonus_4 rfl (lv_at hl 2 rfl) ?_
  refine lv_iconst (v := 0) hx hb dX1_bonus_5 (by decide) ?_
  refine lv_aload_n hx hb dX1_bonus_6 rfl (lv_at hl 0 rfl) ?_
  refine wy_get (ci := 2) (v := .int (nI wk)) (C := RX1) (T := TX1) (N := 5) hx hb hts hinX1 hown hK hP hq.1 rfl 4 (by decide) (hts (.fieldLink RX1 27 "Wheelpay" "presentWeek" "I") (by decide +kernel)) (fun _ h9 => h9) rfl dX1_bonus_7 ?_
  refine va_csv (W.runS (As := [.int p2, .int 0, .int (nI wk)]) (rest := []) ⟨hx, hb, hml, hown, hts⟩ (r_X1_checkRange l (p2) (0) (nI wk) (j) (0) (wk) (by omega) (by omega) (by omega) e2 (rfl : (0 : Int32) = nI 0) rfl) (va_cwS 3 hts gX1_bonus_X1_checkRange rfl rfl rfl (by decide +kernel) ⟨Nat.le_of_ble_eq_true rfl, Nat.le_of_ble_eq_true rfl⟩) (wy_pSN) rfl rfl hl.1 rfl (lv_room (Nat.le_of_ble_eq_true rfl)) dX1_bonus_10 ⟨Nat.le_of_ble_eq_true rfl, Nat.le_of_ble_eq_true rfl⟩) (fun _ => ?_)
  refine lv_aload_n hx hb dX1_bonus_13 rfl (lv_at hl 0 rfl) ?_
  refine lv_iload_n hx hb dX1_bonus_14 rfl (lv_at hl 1 rfl) ?_
  refine lv_iload_n hx hb dX1_bonus_15 rfl (lv_at hl 2 rfl) ?_
  refine vp_callSi (W.runV (As := [.int p1, .int p2]) (rest := []) ⟨hx, hb, hml, hown, hts⟩ (m_X1_bonusFor l hq (p1) (p2)) (cwV 2 hts gX1_bonus_X1_bonusFor rfl rfl rfl (by decide +kernel) ⟨Nat.le_of_ble_eq_true rfl, Nat.le_of_ble_eq_true rfl⟩) (wy_pVR hK hP hq.1 rfl) rfl rfl hl.1 rfl (lv_room (Nat.le_of_ble_eq_true rfl)) dX1_bonus_16 ⟨Nat.le_of_ble_eq_true rfl, Nat.le_of_ble_eq_true rfl⟩) (fun r_1 er_1 => ?_)
  exact wy_iR (by simp only [er_1]) hx hb hr hlocks dX1_bonus_19
set_option maxHeartbeats 4000000 in
set_option maxRecDepth 100000 in
theorem r_X1_pay (l : Launch) {G : wy_G} {L : List Nat} {f : Nat → va_E} {ox lo : Nat} {ra ar : Nat → Nat} {n : Nat} {km mn : Int32} {wk : Nat} {po : Nat → Int32} {rr : Nat → wr_V} (hq : wx_S G L f ox lo ra ar n km mn wk po rr) (p1 p2 : Int32) (k j : Nat) (hk : k < 5) (hj : j ≤ wk) (e1 : p1 = nI k) (e2 : p2 = nI j) : Met l yX1_pay wsX1_pay ({ frames := 6, cells := 0, slots := 0, locals := 135 } : Room) (va_Pc [.ref ox, .int p1, .int p2] (wy_R G L f)) (vp_Si (fun z => z = payS rr n p1 p2)) 0 0 (fun _ => False) := by
  refine Met.ofW (cc := cX1_pay) (maxL := 3) (ret := (some .int)) (by decide) rfl ?_
  intro p e s m args below meth c s₁ B hml hv
  obtain ⟨rfl, hP, hK⟩ := hv
  have hx := B.exec
  have hb := B.bytes
  have hr := B.returns
  have hts := atoms_spec (ws := wsX1_pay) B.pre
  have hown : s.vm.findClass RX1 = some m.cls := findClass_of_methodNamed B.named
  have hlocks := B.notSynchronized
  have hinX1 : ∀ w ∈ wsX10, w ∈ wsX1_pay := by decide +kernel
  obtain ⟨md, he, cap, gg, hL1, -⟩ := id hq.2.1
  have hn : n ≤ 40 := hq.2.2.2.2.1
  have hwk : wk ≤ 20 := hq.2.2.2.2.2.1
  have hl := lv_entry ([.ref ox, .int p1, .int p2]) (n := 3) (Nat.le_of_ble_eq_true rfl)
  rw [lg_entry_eq]
  generalize (lg_sl ([.ref ox, .int p1, .int p2]) ++ List.replicate (3 - (lg_sl ([.ref ox, .int p1, .int p2])).length) Slot.unset).toArray = ls at hl ⊢
  have hl : lv_has ls 3 [(0, .ref ox), (1, .int p1), (2, .int p2)] := hl
  refine lv_iload_n hx hb dX1_pay_0 rfl (lv_at hl 1 rfl) ?_
  refine va_csv (W.runS (As := [.int p1]) (rest := []) ⟨hx, hb, hml, hown, hts⟩ (r_X1_checkDriver l (p1) (k) (by omega) e1) (va_cwS 1 hts gX1_pay_X1_checkDriver rfl rfl rfl (by decide +kernel) ⟨Nat.le_of_ble_eq_true rfl, Nat.le_of_ble_eq_true rfl⟩) (wy_pSN) rfl rfl hl.1 rfl (lv_room (Nat.le_of_ble_eq_true rfl)) dX1_pay_1 ⟨Nat.le_of_ble_eq_true rfl, Nat.le_of_ble_eq_true rfl⟩) (fun _ => ?_)
  refine lv_iload_n hx hb dX1_pay_4 rfl (lv_at hl 2 rfl) ?_
  refine lv_iconst (v := 0) hx hb dX1_pay_5 (by decide) ?_
  refine lv_aload_n hx hb dX1_pay_6 rfl (lv_at hl 0 rfl) ?_
  refine wy_get (ci := 2) (v := .int (nI wk)) (C := RX1) (T := TX1) (N := 5) hx hb hts hinX1 hown hK hP hq.1 rfl 4 (by decide) (hts (.fieldLink RX1 27 "Wheelpay" "presentWeek" "I") (by decide +kernel)) (fun _ h9 => h9) rfl dX1_pay_7 ?_
  refine va_csv (W.runS (As := [.int p2, .int 0, .int (nI wk)]) (rest := []) ⟨hx, hb, hml, hown, hts⟩ (r_X1_checkRange l (p2) (0) (nI wk) (j) (0) (wk) (by omega) (by omega) (by omega) e2 (rfl : (0 : Int32) = nI 0) rfl) (va_cwS 3 hts gX1_pay_X1_checkRange rfl rfl rfl (by decide +kernel) ⟨Nat.le_of_ble_eq_true rfl, Nat.le_of_ble_eq_true rfl⟩) (wy_pSN) rfl rfl hl.1 rfl (lv_room (Nat.le_of_ble_eq_true rfl)) dX1_pay_10 ⟨Nat.le_of_ble_eq_true rfl, Nat.le_of_ble_eq_true rfl⟩) (fun _ => ?_)
  refine lv_aload_n hx hb dX1_pay_13 rfl (lv_at hl 0 rfl) ?_
  refine lv_iload_n hx hb dX1_pay_14 rfl (lv_at hl 1 rfl) ?_
  refine lv_iload_n hx hb dX1_pay_15 rfl (lv_at hl 2 rfl) ?_
  refine vp_callSi (W.runV (As := [.int p1, .int p2]) (rest := []) ⟨hx, hb, hml, hown, hts⟩ (m_X1_payFor l hq (p1) (p2)) (cwV 2 hts gX1_pay_X1_payFor rfl rfl rfl (by decide +kernel) ⟨Nat.le_of_ble_eq_true rfl, Nat.le_of_ble_eq_true rfl⟩) (wy_pVR hK hP hq.1 rfl) rfl rfl hl.1 rfl (lv_room (Nat.le_of_ble_eq_true rfl)) dX1_pay_16 ⟨Nat.le_of_ble_eq_true rfl, Nat.le_of_ble_eq_true rfl⟩) (fun r_1 er_1 => ?_)
  exact wy_iR (by simp only [er_1]) hx hb hr hlocks dX1_pay_19
set_option maxHeartbeats 4000000 in
set_option maxRecDepth 100000 in
theorem r_X1_balance (l : Launch) {G : wy_G} {L : List Nat} {f : Nat → va_E} {ox lo : Nat} {ra ar : Nat → Nat} {n : Nat} {km mn : Int32} {wk : Nat} {po : Nat → Int32} {rr : Nat → wr_V} (hq : wx_S G L f ox lo ra ar n km mn wk po rr) (p1 : Int32) (k : Nat) (hk : k < 5) (e1 : p1 = nI k) : Met l yX1_balance wsX1_balance ({ frames := 8, cells := 0, slots := 0, locals := 180 } : Room) (va_Pc [.ref ox, .int p1] (wy_R G L f)) (vp_Si (fun z => z = dueS rr n po wk k)) 0 0 (fun _ => False) := by
  refine Met.ofW (cc := cX1_balance) (maxL := 2) (ret := (some .int)) (by decide) rfl ?_
  intro p e s m args below meth c s₁ B hml hv
  obtain ⟨rfl, hP, hK⟩ := hv
  have hx := B.exec
  have hb := B.bytes
  have hr := B.returns
  have hts := atoms_spec (ws := wsX1_balance) B.pre
  have hown : s.vm.findClass RX1 = some m.cls := findClass_of_methodNamed B.named
  have hlocks := B.notSynchronized
  obtain ⟨md, he, cap, gg, hL1, -⟩ := id hq.2.1
  have hn : n ≤ 40 := hq.2.2.2.2.1
  have hwk : wk ≤ 20 := hq.2.2.2.2.2.1
  have hl := lv_entry ([.ref ox, .int p1]) (n := 2) (Nat.le_of_ble_eq_true rfl)
  rw [lg_entry_eq]
  generalize (lg_sl ([.ref ox, .int p1]) ++ List.replicate (2 - (lg_sl ([.ref ox, .int p1])).length) Slot.unset).toArray = ls at hl ⊢
  have hl : lv_has ls 2 [(0, .ref ox), (1, .int p1)] := hl
  refine lv_iload_n hx hb dX1_balance_0 rfl (lv_at hl 1 rfl) ?_
  refine va_csv (W.runS (As := [.int p1]) (rest := []) ⟨hx, hb, hml, hown, hts⟩ (r_X1_checkDriver l (p1) (k) (by omega) e1) (va_cwS 1 hts gX1_balance_X1_checkDriver rfl rfl rfl (by decide +kernel) ⟨Nat.le_of_ble_eq_true rfl, Nat.le_of_ble_eq_true rfl⟩) (wy_pSN) rfl rfl hl.1 rfl (lv_room (Nat.le_of_ble_eq_true rfl)) dX1_balance_1 ⟨Nat.le_of_ble_eq_true rfl, Nat.le_of_ble_eq_true rfl⟩) (fun _ => ?_)
  refine lv_aload_n hx hb dX1_balance_4 rfl (lv_at hl 0 rfl) ?_
  refine lv_iload_n hx hb dX1_balance_5 rfl (lv_at hl 1 rfl) ?_
  refine vp_callSi (W.runV (As := [.int p1]) (rest := []) ⟨hx, hb, hml, hown, hts⟩ (m_X1_dueTo l hq (p1) (k) (by omega) e1) (cwV 1 hts gX1_balance_X1_dueTo rfl rfl rfl (by decide +kernel) ⟨Nat.le_of_ble_eq_true rfl, Nat.le_of_ble_eq_true rfl⟩) (wy_pVR hK hP hq.1 rfl) rfl rfl hl.1 rfl (lv_room (Nat.le_of_ble_eq_true rfl)) dX1_balance_6 ⟨Nat.le_of_ble_eq_true rfl, Nat.le_of_ble_eq_true rfl⟩) (fun r_1 er_1 => ?_)
  exact wy_iR (by simp only [er_1]) hx hb hr hlocks dX1_balance_9
set_option maxHeartbeats 4000000 in
set_option maxRecDepth 100000 in
theorem r_X1_paid (l : Launch) {G : wy_G} {L : List Nat} {f : Nat → va_E} {ox lo : Nat} {ra ar : Nat → Nat} {n : Nat} {km mn : Int32} {wk : Nat} {po : Nat → Int32} {rr : Nat → wr_V} (hq : wx_S G L f ox lo ra ar n km mn wk po rr) (p1 : Int32) (k : Nat) (hk : k < 5) (e1 : p1 = nI k) : Met l yX1_paid wsX1_paid ({ frames := 1, cells := 0, slots := 0, locals := 20 } : Room) (va_Pc [.ref ox, .int p1] (wy_R G L f)) (vp_Si (fun z => z = po k)) 0 0 (fun _ => False) := by
  refine Met.ofW (cc := cX1_paid) (maxL := 2) (ret := (some .int)) (by decide) rfl ?_
  intro p e s m args below meth c s₁ B hml hv
  obtain ⟨rfl, hP, hK⟩ := hv
  have hx := B.exec
  have hb := B.bytes
  have hr := B.returns
  have hts := atoms_spec (ws := wsX1_paid) B.pre
  have hown : s.vm.findClass RX1 = some m.cls := findClass_of_methodNamed B.named
  have hlocks := B.notSynchronized
  have hinX1 : ∀ w ∈ wsX10, w ∈ wsX1_paid := by decide +kernel
  obtain ⟨md, he, cap, gg, hL1, -⟩ := id hq.2.1
  have hn : n ≤ 40 := hq.2.2.2.2.1
  have hwk : wk ≤ 20 := hq.2.2.2.2.2.1
  have hl := lv_entry ([.ref ox, .int p1]) (n := 2) (Nat.le_of_ble_eq_true rfl)
  rw [lg_entry_eq]
  generalize (lg_sl ([.ref ox, .int p1]) ++ List.replicate (2 - (lg_sl ([.ref ox, .int p1])).length) Slot.unset).toArray = ls at hl ⊢
  have hl : lv_has ls 2 [(0, .ref ox), (1, .int p1)] := hl
  refine lv_iload_n hx hb dX1_paid_0 rfl (lv_at hl 1 rfl) ?_
  refine va_csv (W.runS (As := [.int p1]) (rest := []) ⟨hx, hb, hml, hown, hts⟩ (r_X1_checkDriver l (p1) (k) (by omega) e1) (va_cwS 1 hts gX1_paid_X1_checkDriver rfl rfl rfl (by decide +kernel) ⟨Nat.le_of_ble_eq_true rfl, Nat.le_of_ble_eq_true rfl⟩) (wy_pSN) rfl rfl hl.1 rfl (lv_room (Nat.le_of_ble_eq_true rfl)) dX1_paid_1 ⟨Nat.le_of_ble_eq_true rfl, Nat.le_of_ble_eq_true rfl⟩) (fun _ => ?_)
  refine lv_aload_n hx hb dX1_paid_4 rfl (lv_at hl 0 rfl) ?_
  refine wy_get (ci := 2) (v := .ref (ar 0)) (C := RX1) (T := TX1) (N := 5) hx hb hts hinX1 hown hK hP hq.1 rfl 1 (by decide) (hts (.fieldLink RX1 16 "Wheelpay" "paidOut" "[I") (by decide +kernel)) (fun _ h9 => h9) rfl dX1_paid_5 ?_
  refine lv_iload_n hx hb dX1_paid_8 rfl (lv_at hl 1 rfl) ?_
  refine wy_iald hx hb hK hP hq.2.2.1 (k) e1 (by omega) (by omega) dX1_paid_9 ?_
  exact wy_iR rfl hx hb hr hlocks dX1_paid_10
set_option maxHeartbeats 4000000 in
set_option maxRecDepth 100000 in
theorem r_X1_spent (l : Launch) {G : wy_G} {L : List Nat} {f : Nat → va_E} {ox lo : Nat} {ra ar : Nat → Nat} {n : Nat} {km mn : Int32} {wk : Nat} {po : Nat → Int32} {rr : Nat → wr_V} (hq : wx_S G L f ox lo ra ar n km mn wk po rr) (p1 : Int32) (k : Nat) (hk : k < 10) (e1 : p1 = nI k) : Met l yX1_spent wsX1_spent ({ frames := 3, cells := 0, slots := 0, locals := 64 } : Room) (va_Pc [.ref ox, .int p1] (wy_R G L f)) (vp_Si (fun z => z = spdS rr n k)) 0 0 (fun _ => False) := by
  refine Met.ofW (cc := cX1_spent) (maxL := 5) (ret := (some .int)) (by decide) rfl ?_
  intro p e s m args below meth c s₁ B hml hv
  obtain ⟨rfl, hP, hK⟩ := hv
  have hx := B.exec
  have hb := B.bytes
  have hr := B.returns
  have hts := atoms_spec (ws := wsX1_spent) B.pre
  have hown : s.vm.findClass RX1 = some m.cls := findClass_of_methodNamed B.named
  have hlocks := B.notSynchronized
  have hinX1 : ∀ w ∈ wsX10, w ∈ wsX1_spent := by decide +kernel
  obtain ⟨md, he, cap, gg, hL1, -⟩ := id hq.2.1
  have hn : n ≤ 40 := hq.2.2.2.2.1
  have hwk : wk ≤ 20 := hq.2.2.2.2.2.1
  have hl := lv_entry ([.ref ox, .int p1]) (n := 5) (Nat.le_of_ble_eq_true rfl)
  rw [lg_entry_eq]
  generalize (lg_sl ([.ref ox, .int p1]) ++ List.replicate (5 - (lg_sl ([.ref ox, .int p1])).length) Slot.unset).toArray = ls at hl ⊢
  have hl : lv_has ls 5 [(0, .ref ox), (1, .int p1)] := hl
  refine lv_iload_n hx hb dX1_spent_0 rfl (lv_at hl 1 rfl) ?_
  refine va_csv (W.runS (As := [.int p1]) (rest := []) ⟨hx, hb, hml, hown, hts⟩ (r_X1_checkRider l (p1) (k) (by omega) e1) (va_cwS 1 hts gX1_spent_X1_checkRider rfl rfl rfl (by decide +kernel) ⟨Nat.le_of_ble_eq_true rfl, Nat.le_of_ble_eq_true rfl⟩) (wy_pSN) rfl rfl hl.1 rfl (lv_room (Nat.le_of_ble_eq_true rfl)) dX1_spent_1 ⟨Nat.le_of_ble_eq_true rfl, Nat.le_of_ble_eq_true rfl⟩) (fun _ => ?_)
  refine lv_iconst (v := 0) hx hb dX1_spent_4 (by decide) ?_
  refine lv_istore_n (lv' := [(2, .int 0), (0, .ref ox), (1, .int p1)]) hx hb dX1_spent_5 rfl hl (by decide) rfl (fun ls hl => ?_)
  refine lv_iconst (v := 0) hx hb dX1_spent_6 (by decide) ?_
  refine lv_istore_n (lv' := [(3, .int 0), (2, .int 0), (0, .ref ox), (1, .int p1)]) hx hb dX1_spent_7 rfl hl (by decide) rfl (fun ls hl => ?_)
  have KK : ∀ (d i : Nat), i + d = n → ∀ (xi_i : Int32), xi_i = nI (i) → ∀ (a_s : Int32), a_s = bx_sum (fun x => if rfi (rr x) then rch (rr x) k - rrf (rr x) k else 0) i → ∀ ls : Array Slot, lv_has ls 5 [(3, .int xi_i), (2, .int a_s), (0, .ref ox), (1, .int p1)] → W p l e (headSpec wsX1_spent ({ frames := 3, cells := 0, slots := 0, locals := 64 } : Room)).room s m ([.ref ox, .int p1] : List Value).toArray below meth c s.heap [] 0 0 (MQ below (vp_Si (fun z => z = spdS rr n k)) ([.ref ox, .int p1] : List Value).toArray s 0 0 (fun _ => False)) (F0 m 8 ls []) := by
    intro d
    induction d with
    | zero =>
      intro i hd_i xi_i ei_i a_s ha_s ls hl
      refine lv_iload_n hx hb dX1_spent_8 rfl (lv_at hl 0 rfl) ?_
      refine lv_aload_n hx hb dX1_spent_9 rfl (lv_at hl 2 rfl) ?_
      refine wy_get (ci := 2) (v := .ref lo) (C := RX1) (T := TX1) (N := 5) hx hb hts hinX1 hown hK hP hq.1 rfl 0 (by decide) (hts (.fieldLink RX1 10 "Wheelpay" "rides" "Ljava/util/ArrayList;") (by decide +kernel)) (fun _ h9 => h9) rfl dX1_spent_10 ?_
      refine vp_callSi (W.runV (As := []) (rest := [.int xi_i]) ⟨hx, hb, hml, hown, hts⟩ (m_Jx4a65c_size_8abf5 l hq.2.1) (cwV 0 hts gX1_spent_Jx4a65c_size_8abf5 rfl rfl rfl (by decide +kernel) ⟨Nat.le_of_ble_eq_true rfl, Nat.le_of_ble_eq_true rfl⟩) (wy_pVR hK hP hL1 rfl) rfl rfl hl.1 rfl (lv_room (Nat.le_of_ble_eq_true rfl)) dX1_spent_13 ⟨Nat.le_of_ble_eq_true rfl, Nat.le_of_ble_eq_true rfl⟩) (fun r_1 er_1 => ?_)
      refine lv_icmp_ge (tgt := 62) hx hb dX1_spent_16 (by decide) (fun c_2 => ?_) (fun c_2 => ?_)
      · have nc_2 : n ≤ i := (wy_ge ei_i er_1 (by omega) (by omega)).mp c_2
        obtain rfl : n = i := by omega
        refine lv_iload_n hx hb dX1_spent_62 rfl (lv_at hl 1 rfl) ?_
        exact wy_iR (by rw [ha_s]; rfl) hx hb hr hlocks dX1_spent_63
      · have nc_2 : ¬ (n ≤ i) := fun z => c_2 ((wy_ge ei_i er_1 (by omega) (by omega)).mpr z)
        exact absurd nc_2 (by omega)
    | succ d ih_d =>
      intro i hd_i xi_i ei_i a_s ha_s ls hl
      refine lv_iload_n hx hb dX1_spent_8 rfl (lv_at hl 0 rfl) ?_
      refine lv_aload_n hx hb dX1_spent_9 rfl (lv_at hl 2 rfl) ?_
      refine wy_get (ci := 2) (v := .ref lo) (C := RX1) (T := TX1) (N := 5) hx hb hts hinX1 hown hK hP hq.1 rfl 0 (by decide) (hts (.fieldLink RX1 10 "Wheelpay" "rides" "Ljava/util/ArrayList;") (by decide +kernel)) (fun _ h9 => h9) rfl dX1_spent_10 ?_
      refine vp_callSi (W.runV (As := []) (rest := [.int xi_i]) ⟨hx, hb, hml, hown, hts⟩ (m_Jx4a65c_size_8abf5 l hq.2.1) (cwV 0 hts gX1_spent_Jx4a65c_size_8abf5 rfl rfl rfl (by decide +kernel) ⟨Nat.le_of_ble_eq_true rfl, Nat.le_of_ble_eq_true rfl⟩) (wy_pVR hK hP hL1 rfl) rfl rfl hl.1 rfl (lv_room (Nat.le_of_ble_eq_true rfl)) dX1_spent_13 ⟨Nat.le_of_ble_eq_true rfl, Nat.le_of_ble_eq_true rfl⟩) (fun r_3 er_3 => ?_)
      refine lv_icmp_ge (tgt := 62) hx hb dX1_spent_16 (by decide) (fun c_4 => ?_) (fun c_4 => ?_)
      · have nc_4 : n ≤ i := (wy_ge ei_i er_3 (by omega) (by omega)).mp c_4
        exact absurd nc_4 (by omega)
      · have nc_4 : ¬ (n ≤ i) := fun z => c_4 ((wy_ge ei_i er_3 (by omega) (by omega)).mpr z)
        refine lv_aload_n hx hb dX1_spent_19 rfl (lv_at hl 2 rfl) ?_
        refine wy_get (ci := 2) (v := .ref lo) (C := RX1) (T := TX1) (N := 5) hx hb hts hinX1 hown hK hP hq.1 rfl 0 (by decide) (hts (.fieldLink RX1 10 "Wheelpay" "rides" "Ljava/util/ArrayList;") (by decide +kernel)) (fun _ h9 => h9) rfl dX1_spent_20 ?_
        refine lv_iload_n hx hb dX1_spent_23 rfl (lv_at hl 0 rfl) ?_
        refine va_csr (W.runV (As := [.int xi_i]) (rest := []) ⟨hx, hb, hml, hown, hts⟩ (m_Jx4a65c_get_915e3 l hq.2.1 (xi_i) (i) (by omega) ei_i) (cwV 1 hts gX1_spent_Jx4a65c_get_915e3 rfl rfl rfl (by decide +kernel) ⟨Nat.le_of_ble_eq_true rfl, Nat.le_of_ble_eq_true rfl⟩) (wy_pVR hK hP hL1 rfl) rfl rfl hl.1 rfl (lv_room (Nat.le_of_ble_eq_true rfl)) dX1_spent_24 ⟨Nat.le_of_ble_eq_true rfl, Nat.le_of_ble_eq_true rfl⟩) (fun r_5 er_5 => ?_)
        subst er_5
        refine wy_cast (ci := 1) hx hb hown (hts (.classLink RX1 55 "Wheelpay$Ride") (by decide +kernel)) hK hP (hq.2.2.2.1 (i) (by omega)).1 rfl dX1_spent_27 ?_
        refine lv_astore (lv' := [(4, .ref (ra (i))), (3, .int xi_i), (2, .int a_s), (0, .ref ox), (1, .int p1)]) hx hb dX1_spent_30 hl (by decide) rfl (fun ls hl => ?_)
        refine lv_aload hx hb dX1_spent_32 (lv_at hl 0 rfl) ?_
        refine vp_callSi (W.runV (As := []) (rest := []) ⟨hx, hb, hml, hown, hts⟩ (m_X0_isFinished l (hq.2.2.2.1 (i) (by omega))) (cwV 0 hts gX1_spent_X0_isFinished rfl rfl rfl (by decide +kernel) ⟨Nat.le_of_ble_eq_true rfl, Nat.le_of_ble_eq_true rfl⟩) (wy_pVR hK hP (hq.2.2.2.1 (i) (by omega)).1 rfl) rfl rfl hl.1 rfl (lv_room (Nat.le_of_ble_eq_true rfl)) dX1_spent_34 ⟨Nat.le_of_ble_eq_true rfl, Nat.le_of_ble_eq_true rfl⟩) (fun r_6 er_6 => ?_)
        refine lv_if_eq (tgt := 56) hx hb dX1_spent_37 (by decide) (fun c_7 => ?_) (fun c_7 => ?_)
        · have bc_7 : (rfi (rr (i))) = false := bI_0 (er_6.symm.trans c_7)
          obtain ⟨x_8, ex_8⟩ : ∃ y : Int32, y = xi_i + 1 := ⟨_, rfl⟩
          have nx_8 : x_8 = nI (i + 1) := by rw [ex_8, ei_i, nI_1]
          refine lv_iinc (v := x_8) (lv' := [(3, .int x_8), (4, .ref (ra (i))), (2, .int a_s), (0, .ref ox), (1, .int p1)]) hx hb dX1_spent_56 hl (k := 1) rfl (by rw [ex_8]; rfl) (by decide) rfl (fun ls hl => ?_)
          refine lv_goto (tgt := 8) hx hb dX1_spent_59 (by decide) ?_
          exact ih_d (i + 1) (by omega) _ nx_8 _ (by simp [bx_sum, ha_s, er_3, er_6, ex_8, bc_7]) ls (lv_sub hl [0, 2, 3, 4] rfl)
        · have bc_7 : (rfi (rr (i))) = true := bI_1 (fun z => c_7 (er_6.trans z))
          refine lv_iload_n hx hb dX1_spent_40 rfl (lv_at hl 2 rfl) ?_
          refine lv_aload hx hb dX1_spent_41 (lv_at hl 0 rfl) ?_
          refine lv_iload_n hx hb dX1_spent_43 rfl (lv_at hl 4 rfl) ?_
          refine vp_callSi (W.runV (As := [.int p1]) (rest := [.int a_s]) ⟨hx, hb, hml, hown, hts⟩ (m_X0_chargeOf l (hq.2.2.2.1 (i) (by omega)) (p1) (k) (by omega) e1) (cwV 1 hts gX1_spent_X0_chargeOf rfl rfl rfl (by decide +kernel) ⟨Nat.le_of_ble_eq_true rfl, Nat.le_of_ble_eq_true rfl⟩) (wy_pVR hK hP (hq.2.2.2.1 (i) (by omega)).1 rfl) rfl rfl hl.1 rfl (lv_room (Nat.le_of_ble_eq_true rfl)) dX1_spent_44 ⟨Nat.le_of_ble_eq_true rfl, Nat.le_of_ble_eq_true rfl⟩) (fun r_9 er_9 => ?_)
          refine lv_aload hx hb dX1_spent_47 (lv_at hl 0 rfl) ?_
          refine lv_iload_n hx hb dX1_spent_49 rfl (lv_at hl 4 rfl) ?_
          refine vp_callSi (W.runV (As := [.int p1]) (rest := [.int r_9, .int a_s]) ⟨hx, hb, hml, hown, hts⟩ (m_X0_refundOf l (hq.2.2.2.1 (i) (by omega)) (p1) (k) (by omega) e1) (cwV 1 hts gX1_spent_X0_refundOf rfl rfl rfl (by decide +kernel) ⟨Nat.le_of_ble_eq_true rfl, Nat.le_of_ble_eq_true rfl⟩) (wy_pVR hK hP (hq.2.2.2.1 (i) (by omega)).1 rfl) rfl rfl hl.1 rfl (lv_room (Nat.le_of_ble_eq_true rfl)) dX1_spent_50 ⟨Nat.le_of_ble_eq_true rfl, Nat.le_of_ble_eq_true rfl⟩) (fun r_10 er_10 => ?_)
          refine lv_isub hx hb dX1_spent_53 ?_
          refine lv_topi (fun x_11 ex_11 => ?_)
          refine lv_iadd hx hb dX1_spent_54 ?_
          refine lv_topi (fun x_12 ex_12 => ?_)
          refine lv_istore_n (lv' := [(2, .int x_12), (4, .ref (ra (i))), (3, .int xi_i), (0, .ref ox), (1, .int p1)]) hx hb dX1_spent_55 rfl hl (by decide) rfl (fun ls hl => ?_)
          obtain ⟨x_13, ex_13⟩ : ∃ y : Int32, y = xi_i + 1 := ⟨_, rfl⟩
          have nx_13 : x_13 = nI (i + 1) := by rw [ex_13, ei_i, nI_1]
          refine lv_iinc (v := x_13) (lv' := [(3, .int x_13), (2, .int x_12), (4, .ref (ra (i))), (0, .ref ox), (1, .int p1)]) hx hb dX1_spent_56 hl (k := 2) rfl (by rw [ex_13]; rfl) (by decide) rfl (fun ls hl => ?_)
          refine lv_goto (tgt := 8) hx hb dX1_spent_59 (by decide) ?_
          exact ih_d (i + 1) (by omega) _ nx_13 _ (by simp [bx_sum, ha_s, er_3, er_6, er_9, er_10, ex_11, ex_12, ex_13, bc_7]) ls (lv_sub hl [0, 1, 3, 4] rfl)
  exact KK (n) 0 (by omega) _ rfl _ rfl ls (lv_sub hl [0, 1, 2, 3] rfl)
