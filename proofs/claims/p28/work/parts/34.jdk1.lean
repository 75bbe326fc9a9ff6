def wl_x0 (G : wy_G) (L : List Nat) (f : Nat → va_E) (ha : Nat) (p1 p2 : Int32) : Option Value → List Nat → (Nat → va_E) → Prop := fun r L' f' => r = none ∧ ∃ ca da, L' = L ++ [ca] ++ [da] ∧ ca ∉ L ∧ da ∉ L ∧ wr_o G L' f' ha ca da (vNew p1 p2) ∧ ∀ z, z ∈ L → z ≠ ha → f' z = f z
set_option maxHeartbeats 4000000 in
set_option maxRecDepth 100000 in
theorem m_X0_init (l : Launch) {G : wy_G} {L : List Nat} {f : Nat → va_E} {sz : Nat} {ha : Nat} (hq : wy_c L f ha (.inr (1, [.int 0, .int 0, .null, .null, .int 0, .int 0, .int 0, .int 0, .int 0, .int 0, .int 0]))) (p1 p2 : Int32) : Met l yX0_init wsX0_init ({ frames := 1, cells := 2, slots := 20, locals := 12 } : Room) (va_Pc [.ref ha, .int p1, .int p2] (wy_W G L f sz)) (wy_Q G (wl_x0 G L f ha p1 p2) (wy_A L sz)) 2 20 (wy_A L sz) := by
  refine Met.ofW (cc := cX0_init) (maxL := 3) (ret := none) (by decide) rfl ?_
  intro p e s m args below meth c s₁ B hml hv
  obtain ⟨rfl, hv⟩ := hv
  obtain ⟨hw, hK, hA⟩ := wy_start hv
  have hsz := hv.1
  subst hsz
  have hx := B.exec
  have hb := B.bytes
  have hr := B.returns
  have hts := atoms_spec (ws := wsX0_init) B.pre
  have hown : s.vm.findClass RX0 = some m.cls := findClass_of_methodNamed B.named
  have hlocks := B.notSynchronized
  have hin : meth.name = "<init>" := (name_of_methodNamed B.named B.method).1
  have hinX0 : ∀ w ∈ wsX00, w ∈ wsX0_init := by decide +kernel
  have hl := lv_entry ([.ref ha, .int p1, .int p2]) (n := 3) (Nat.le_of_ble_eq_true rfl)
  rw [lg_entry_eq]
  generalize (lg_sl ([.ref ha, .int p1, .int p2]) ++ List.replicate (3 - (lg_sl ([.ref ha, .int p1, .int p2])).length) Slot.unset).toArray = ls at hl ⊢
  have hl : lv_has ls 3 [(0, .ref ha), (1, .int p1), (2, .int p2)] := hl
  refine lv_aload_n hx hb dX0_init_0 rfl (lv_at hl 0 rfl) ?_
  refine W.objInit hx hb hown (hts (.methodLink RX0 3 objectInit) (by decide +kernel)) (hts (.instanceMethod objectInit) (by decide +kernel)) (hts (.code objectInit ⟨#[0xb1]⟩ 1 none) (by decide +kernel)) rfl (by rw [hml]; exact hl.1) rfl dX0_init_1 (Nat.le_of_ble_eq_true rfl) (Nat.le_of_ble_eq_true rfl) ?_
  refine W.eq (g2 := F0 m 4 ls []) rfl ?_
  refine lv_aload_n hx hb dX0_init_4 rfl (lv_at hl 0 rfl) ?_
  refine lv_iload_n hx hb dX0_init_5 rfl (lv_at hl 1 rfl) ?_
  refine wy_putF (ci := 1) (v := .int p1) (ty := .int) (C := RX0) (T := TX0) (N := 11) hx hb hts hinX0 tyX0 tyX0_ok nmX0 hown hK hw hq rfl 0 (by decide) (hts (.fieldLink RX0 9 "Wheelpay$Ride" "driver" "I") (by decide +kernel)) (fun _ h9 => h9) rfl hin rfl (by decide +kernel) rfl rfl (Nat.le_of_ble_eq_true rfl) dX0_init_6 (fun H locs f_1 hs_2 hn_3 hw => ?_)
  have hc_4 : wy_c L f_1 ha (.inr (1, [.int p1, .int 0, .null, .null, .int 0, .int 0, .int 0, .int 0, .int 0, .int 0, .int 0])) := hs_2
  refine lv_aload_n hx hb dX0_init_9 rfl (lv_at hl 0 rfl) ?_
  refine lv_iload_n hx hb dX0_init_10 rfl (lv_at hl 2 rfl) ?_
  refine wy_putF (ci := 1) (v := .int p2) (ty := .int) (C := RX0) (T := TX0) (N := 11) hx hb hts hinX0 tyX0 tyX0_ok nmX0 hown hK hw hc_4 rfl 1 (by decide) (hts (.fieldLink RX0 15 "Wheelpay$Ride" "startWeek" "I") (by decide +kernel)) (fun _ h9 => h9) rfl hin rfl (by decide +kernel) rfl rfl (Nat.le_of_ble_eq_true rfl) dX0_init_11 (fun H locs f_5 hs_6 hn_7 hw => ?_)
  have hc_8 : wy_c L f_5 ha (.inr (1, [.int p1, .int p2, .null, .null, .int 0, .int 0, .int 0, .int 0, .int 0, .int 0, .int 0])) := hs_6
  refine lv_aload_n hx hb dX0_init_14 rfl (lv_at hl 0 rfl) ?_
  refine lv_bipush (v := 10) hx hb dX0_init_15 (by decide) ?_
  refine wy_newI hx hb (hts (.arrayClass .int) (by decide +kernel)) hK hw hA 10 rfl (by decide) (Nat.le_of_ble_eq_true rfl) (Nat.le_of_ble_eq_true rfl) dX0_init_17 (fun q0 H fq0 hfr0 hcq0 hnq0 hw => ?_)
  have hc_9 := wy_c.app2 hc_8 hfr0 hnq0
  have ne_ha_0 := wy_c.neq hc_8 hfr0
  refine wy_putF (ci := 1) (v := .ref q0) (ty := .array .int) (C := RX0) (T := TX0) (N := 11) hx hb hts hinX0 tyX0 tyX0_ok nmX0 hown hK hw hc_9 rfl 2 (by decide) (hts (.fieldLink RX0 18 "Wheelpay$Ride" "charges" "[I") (by decide +kernel)) (fun _ h9 => h9) rfl hin rfl (by decide +kernel) rfl rfl (Nat.le_of_ble_eq_true rfl) dX0_init_19 (fun H locs f_10 hs_11 hn_12 hw => ?_)
  have hc_13 := wy_c.ne2 hcq0 hn_12 ne_ha_0.symm
  have hc_14 : wy_c (L ++ [q0]) f_10 ha (.inr (1, [.int p1, .int p2, .ref q0, .null, .int 0, .int 0, .int 0, .int 0, .int 0, .int 0, .int 0])) := hs_11
  refine lv_aload_n hx hb dX0_init_22 rfl (lv_at hl 0 rfl) ?_
  refine lv_bipush (v := 10) hx hb dX0_init_23 (by decide) ?_
  refine wy_newI hx hb (hts (.arrayClass .int) (by decide +kernel)) hK hw hA 10 rfl (by decide) (Nat.le_of_ble_eq_true rfl) (Nat.le_of_ble_eq_true rfl) dX0_init_25 (fun q1 H fq1 hfr1 hcq1 hnq1 hw => ?_)
  have hc_15 := wy_c.app2 hc_14 hfr1 hnq1
  have ne_ha_1 := wy_c.neq hc_14 hfr1
  have hc_16 := wy_c.app2 hc_13 hfr1 hnq1
  have ne_q0_1 := wy_c.neq hc_13 hfr1
  refine wy_putF (ci := 1) (v := .ref q1) (ty := .array .int) (C := RX0) (T := TX0) (N := 11) hx hb hts hinX0 tyX0 tyX0_ok nmX0 hown hK hw hc_15 rfl 3 (by decide) (hts (.fieldLink RX0 22 "Wheelpay$Ride" "refunds" "[I") (by decide +kernel)) (fun _ h9 => h9) rfl hin rfl (by decide +kernel) rfl rfl (Nat.le_of_ble_eq_true rfl) dX0_init_27 (fun H locs f_17 hs_18 hn_19 hw => ?_)
  have hc_20 := wy_c.ne2 hc_16 hn_19 ne_ha_0.symm
  have hc_21 := wy_c.ne2 hcq1 hn_19 ne_ha_1.symm
  have hc_22 : wy_c ((L ++ [q0]) ++ [q1]) f_17 ha (.inr (1, [.int p1, .int p2, .ref q0, .ref q1, .int 0, .int 0, .int 0, .int 0, .int 0, .int 0, .int 0])) := hs_18
  have hfr : ∀ z, z ∈ L → z ≠ ha → f_17 z = f z := fun z hz hn => by
    have z0 : z ≠ q0 := fun e => hfr0 (e ▸ hz)
    have z1 : z ≠ q1 := fun e => hfr1 (e ▸ List.mem_append_left _ hz)
    rw [hn_19 z hn, hnq1 z z1, hn_12 z hn, hnq0 z z0, hn_7 z hn, hn_3 z hn]
  exact wy_vW hx hb hr hlocks dX0_init_30 hw (Nat.le_of_ble_eq_true rfl) (Nat.le_of_ble_eq_true rfl) ⟨rfl, q0, q1, rfl, hfr0, fun z => hfr1 (List.mem_append_left _ z), ⟨hc_22, hc_20, hc_21, ne_ha_0, ne_ha_1, ne_q0_1⟩, hfr⟩
set_option maxHeartbeats 4000000 in
set_option maxRecDepth 100000 in
theorem m_Jxa1e45_init_da8c8 (l : Launch) {G : wy_G} {L : List Nat} {f : Nat → va_E} {sz : Nat} (lo : Nat) : Met l yJxa1e45_init_da8c8 wsJxa1e45_init_da8c8 ({ frames := 1, cells := 0, slots := 0, locals := 12 } : Room) (va_Pc [.ref lo] (wy_W G L f sz)) (wy_Q G (fun r L' f' => r = none ∧ L' = L ∧ f' = f) (wy_A L sz)) 0 0 (wy_A L sz) := by
  refine Met.ofW (cc := cJxa1e45_init_da8c8) (maxL := 1) (ret := none) (by decide) rfl ?_
  intro p e s m args below meth c s₁ B hml hv
  obtain ⟨rfl, hv⟩ := hv
  obtain ⟨hw, hK, hA⟩ := wy_start hv
  have hsz := hv.1
  subst hsz
  have hx := B.exec
  have hb := B.bytes
  have hr := B.returns
  have hts := atoms_spec (ws := wsJxa1e45_init_da8c8) B.pre
  have hown : s.vm.findClass RJxa1e45 = some m.cls := findClass_of_methodNamed B.named
  have hlocks := B.notSynchronized
  have hin : meth.name = "<init>" := (name_of_methodNamed B.named B.method).1
  have hl := lv_entry ([.ref lo]) (n := 1) (Nat.le_of_ble_eq_true rfl)
  rw [lg_entry_eq]
  generalize (lg_sl ([.ref lo]) ++ List.replicate (1 - (lg_sl ([.ref lo])).length) Slot.unset).toArray = ls at hl ⊢
  have hl : lv_has ls 1 [(0, .ref lo)] := hl
  refine lv_aload_n hx hb dJxa1e45_init_da8c8_0 rfl (lv_at hl 0 rfl) ?_
  refine W.objInit hx hb hown (hts (.methodLink RJxa1e45 1 objectInit) (by decide +kernel)) (hts (.instanceMethod objectInit) (by decide +kernel)) (hts (.code objectInit ⟨#[0xb1]⟩ 1 none) (by decide +kernel)) rfl (by rw [hml]; exact hl.1) rfl dJxa1e45_init_da8c8_1 (Nat.le_of_ble_eq_true rfl) (Nat.le_of_ble_eq_true rfl) ?_
  refine W.eq (g2 := F0 m 4 ls []) rfl ?_
  exact wy_vW hx hb hr hlocks dJxa1e45_init_da8c8_4 hw (Nat.le_of_ble_eq_true rfl) (Nat.le_of_ble_eq_true rfl) ⟨rfl, rfl, rfl⟩
set_option maxHeartbeats 4000000 in
set_option maxRecDepth 100000 in
theorem m_Jxc12de_init_da8c8 (l : Launch) {G : wy_G} {L : List Nat} {f : Nat → va_E} {sz : Nat} {lo : Nat} (hq : wy_c L f lo (.inr (0, [.int 0, .null, .int 0]))) : Met l yJxc12de_init_da8c8 wsJxc12de_init_da8c8 ({ frames := 2, cells := 0, slots := 0, locals := 32 } : Room) (va_Pc [.ref lo] (wy_W G L f sz)) (wy_Q G (fun r L' f' => r = none ∧ L' = L ∧ wy_c L f' lo (.inr (0, [.int 0, .null, .int 0])) ∧ ∀ z, z ≠ lo → f' z = f z) (wy_A L sz)) 0 0 (wy_A L sz) := by
  refine Met.ofW (cc := cJxc12de_init_da8c8) (maxL := 1) (ret := none) (by decide) rfl ?_
  intro p e s m args below meth c s₁ B hml hv
  obtain ⟨rfl, hv⟩ := hv
  obtain ⟨hw, hK, hA⟩ := wy_start hv
  have hsz := hv.1
  subst hsz
  have hx := B.exec
  have hb := B.bytes
  have hr := B.returns
  have hts := atoms_spec (ws := wsJxc12de_init_da8c8) B.pre
  have hown : s.vm.findClass RJxc12de = some m.cls := findClass_of_methodNamed B.named
  have hlocks := B.notSynchronized
  have hin : meth.name = "<init>" := (name_of_methodNamed B.named B.method).1
  have hinJx4a65c : ∀ w ∈ wsJx4a65c0, w ∈ wsJxc12de_init_da8c8 := by decide +kernel
  have hl := lv_entry ([.ref lo]) (n := 1) (Nat.le_of_ble_eq_true rfl)
  rw [lg_entry_eq]
  generalize (lg_sl ([.ref lo]) ++ List.replicate (1 - (lg_sl ([.ref lo])).length) Slot.unset).toArray = ls at hl ⊢
  have hl : lv_has ls 1 [(0, .ref lo)] := hl
  refine lv_aload_n hx hb dJxc12de_init_da8c8_0 rfl (lv_at hl 0 rfl) ?_
  refine wy_call (va_runI (As := []) (rest := []) ⟨hx, hb, hml, hown, hts⟩ (m_Jxa1e45_init_da8c8 l (G := G) (L := L) (f := f) lo) (cwI 0 hts gJxc12de_init_da8c8_Jxa1e45_init_da8c8 rfl rfl rfl (hts (.initialized RJxa1e45) (by decide +kernel)) (hts (.methodLink RJxc12de 1 yJxa1e45_init_da8c8) (by decide +kernel)) (hts (.instanceMethod yJxa1e45_init_da8c8) (by decide +kernel)) rfl (by decide +kernel) ⟨Nat.le_of_ble_eq_true rfl, Nat.le_of_ble_eq_true rfl⟩) (wy_pSW hK hw) rfl rfl hl.1 rfl (lv_room (Nat.le_of_ble_eq_true rfl)) dJxc12de_init_da8c8_1 ⟨Nat.le_of_ble_eq_true rfl, Nat.le_of_ble_eq_true rfl⟩) hw hA (fun rw_1 Lw_1 fw_1 H locs hpost hw => ?_)
  obtain ⟨er_1, eL, ef⟩ := hpost
  subst er_1
  obtain rfl := eL.symm
  obtain rfl := ef.symm
  refine lv_aload_n hx hb dJxc12de_init_da8c8_4 rfl (lv_at hl 0 rfl) ?_
  refine lv_iconst (v := 0) hx hb dJxc12de_init_da8c8_5 (by decide) ?_
  refine wy_put (ci := 0) (v := .int 0) (ty := .int) (C := RJx4a65c) (T := TJx4a65c) (N := 3) hx hb hts hinJx4a65c tyJx4a65c tyJx4a65c_ok nmJx4a65c hown hK hw hq rfl 0 (by decide) (hts (.fieldLink RJxc12de 7 "java/util/AbstractList" "modCount" "I") (by decide +kernel)) (fun _ h9 => h9) rfl (by decide +kernel) rfl rfl (Nat.le_of_ble_eq_true rfl) dJxc12de_init_da8c8_6 (fun H locs f_2 hs_3 hn_4 hw => ?_)
  have hc_5 : wy_c L f_2 lo (.inr (0, [.int 0, .null, .int 0])) := hs_3
  exact wy_vW hx hb hr hlocks dJxc12de_init_da8c8_9 hw (Nat.le_of_ble_eq_true rfl) (Nat.le_of_ble_eq_true rfl) ⟨rfl, rfl, hc_5, hn_4⟩
set_option maxHeartbeats 4000000 in
set_option maxRecDepth 100000 in
theorem m_Jx4a65c_init_da8c8 (l : Launch) {G : wy_G} {L : List Nat} {f : Nat → va_E} {sz : Nat} {lo : Nat} (hq : wy_c L f lo (.inr (0, [.int 0, .null, .int 0]))) : Met l yJx4a65c_init_da8c8 wsJx4a65c_init_da8c8 ({ frames := 3, cells := 0, slots := 0, locals := 52 } : Room) (va_Pc [.ref lo] (wl_P G L f sz)) (wy_Q G (fun r L' f' => r = none ∧ L' = L ∧ wy_c L f' lo (.inr (0, [.int 0, .ref (G.2 5), .int 0])) ∧ ∀ z, z ≠ lo → f' z = f z) (wy_A L sz)) 0 0 (wy_A L sz) := by
  refine Met.ofW (cc := cJx4a65c_init_da8c8) (maxL := 1) (ret := none) (by decide) rfl ?_
  intro p e s m args below meth c s₁ B hml hv
  obtain ⟨rfl, hv, hE⟩ := hv
  obtain ⟨hw, hK, hA⟩ := wy_start hv
  have hsz := hv.1
  subst hsz
  have hx := B.exec
  have hb := B.bytes
  have hr := B.returns
  have hts := atoms_spec (ws := wsJx4a65c_init_da8c8) B.pre
  have hown : s.vm.findClass RJx4a65c = some m.cls := findClass_of_methodNamed B.named
  have hlocks := B.notSynchronized
  have hin : meth.name = "<init>" := (name_of_methodNamed B.named B.method).1
  have hinJx4a65c : ∀ w ∈ wsJx4a65c0, w ∈ wsJx4a65c_init_da8c8 := by decide +kernel
  have hl := lv_entry ([.ref lo]) (n := 1) (Nat.le_of_ble_eq_true rfl)
  rw [lg_entry_eq]
  generalize (lg_sl ([.ref lo]) ++ List.replicate (1 - (lg_sl ([.ref lo])).length) Slot.unset).toArray = ls at hl ⊢
  have hl : lv_has ls 1 [(0, .ref lo)] := hl
  refine lv_aload_n hx hb dJx4a65c_init_da8c8_0 rfl (lv_at hl 0 rfl) ?_
  refine wy_call (va_runI (As := []) (rest := []) ⟨hx, hb, hml, hown, hts⟩ (m_Jxc12de_init_da8c8 l hq) (cwI 0 hts gJx4a65c_init_da8c8_Jxc12de_init_da8c8 rfl rfl rfl (hts (.initialized RJxc12de) (by decide +kernel)) (hts (.methodLink RJx4a65c 1 yJxc12de_init_da8c8) (by decide +kernel)) (hts (.instanceMethod yJxc12de_init_da8c8) (by decide +kernel)) rfl (by decide +kernel) ⟨Nat.le_of_ble_eq_true rfl, Nat.le_of_ble_eq_true rfl⟩) (wy_pSW hK hw) rfl rfl hl.1 rfl (lv_room (Nat.le_of_ble_eq_true rfl)) dJx4a65c_init_da8c8_1 ⟨Nat.le_of_ble_eq_true rfl, Nat.le_of_ble_eq_true rfl⟩) hw hA (fun rw_1 Lw_1 fw_1 H locs hpost hw => ?_)
  obtain ⟨er_1, eL, hq, hfr⟩ := hpost
  subst er_1
  obtain rfl := eL.symm
  refine lv_aload_n hx hb dJx4a65c_init_da8c8_4 rfl (lv_at hl 0 rfl) ?_
  refine va_gets hx hb hE.1 hw.2.2 hown (hts (.fieldLink RJx4a65c 39 "java/util/ArrayList" "DEFAULTCAPACITY_EMPTY_ELEMENTDATA" "[Ljava/lang/Object;") (by decide +kernel)) (fun _ h9 => h9) dJx4a65c_init_da8c8_5 ?_
  refine wy_put (ci := 0) (v := .ref (G.2 5)) (ty := .array (.object "java/lang/Object")) (C := RJx4a65c) (T := TJx4a65c) (N := 3) hx hb hts hinJx4a65c tyJx4a65c tyJx4a65c_ok nmJx4a65c hown hK hw hq rfl 1 (by decide) (hts (.fieldLink RJx4a65c 9 "java/util/ArrayList" "elementData" "[Ljava/lang/Object;") (by decide +kernel)) (fun _ h9 => h9) rfl (by decide +kernel) rfl rfl (Nat.le_of_ble_eq_true rfl) dJx4a65c_init_da8c8_8 (fun H locs f_2 hs_3 hn_4 hw => ?_)
  have hc_5 : wy_c L f_2 lo (.inr (0, [.int 0, .ref (G.2 5), .int 0])) := hs_3
  exact wy_vW hx hb hr hlocks dJx4a65c_init_da8c8_11 hw (Nat.le_of_ble_eq_true rfl) (Nat.le_of_ble_eq_true rfl) ⟨rfl, rfl, hc_5, fun z hz => (hn_4 z hz).trans (hfr z hz)⟩
def wl_x1 (G : wy_G) (ox : Nat) : Option Value → List Nat → (Nat → va_E) → Prop := fun r L' f' => r = none ∧ ∃ lo ra ar, wx_S G L' f' ox lo ra ar 0 100 20 0 (fun _ => 0) (fun _ => vNew 0 0)
set_option maxHeartbeats 4000000 in
set_option maxRecDepth 100000 in
theorem m_X1_init (l : Launch) {G : wy_G} {L : List Nat} {f : Nat → va_E} {sz : Nat} {ox : Nat} (hq : wy_c L f ox (.inr (2, [.null, .null, .int 0, .int 0, .int 0]))) : Met l yX1_init wsX1_init ({ frames := 4, cells := 2, slots := 10, locals := 72 } : Room) (va_Pc [.ref ox] (wl_P G L f sz)) (wy_Q G (wl_x1 G ox) (wy_A L sz)) 2 10 (wy_A L sz) := by
  refine Met.ofW (cc := cX1_init) (maxL := 1) (ret := none) (by decide) rfl ?_
  intro p e s m args below meth c s₁ B hml hv
  obtain ⟨rfl, hv, hE⟩ := hv
  obtain ⟨hw, hK, hA⟩ := wy_start hv
  have hsz := hv.1
  subst hsz
  have hx := B.exec
  have hb := B.bytes
  have hr := B.returns
  have hts := atoms_spec (ws := wsX1_init) B.pre
  have hown : s.vm.findClass RX1 = some m.cls := findClass_of_methodNamed B.named
  have hlocks := B.notSynchronized
  have hin : meth.name = "<init>" := (name_of_methodNamed B.named B.method).1
  have hinJx4a65c : ∀ w ∈ wsJx4a65c0, w ∈ wsX1_init := by decide +kernel
  have hinX1 : ∀ w ∈ wsX10, w ∈ wsX1_init := by decide +kernel
  have hl := lv_entry ([.ref ox]) (n := 1) (Nat.le_of_ble_eq_true rfl)
  rw [lg_entry_eq]
  generalize (lg_sl ([.ref ox]) ++ List.replicate (1 - (lg_sl ([.ref ox])).length) Slot.unset).toArray = ls at hl ⊢
  have hl : lv_has ls 1 [(0, .ref ox)] := hl
  refine lv_aload_n hx hb dX1_init_0 rfl (lv_at hl 0 rfl) ?_
  refine W.objInit hx hb hown (hts (.methodLink RX1 1 objectInit) (by decide +kernel)) (hts (.instanceMethod objectInit) (by decide +kernel)) (hts (.code objectInit ⟨#[0xb1]⟩ 1 none) (by decide +kernel)) rfl (by rw [hml]; exact hl.1) rfl dX1_init_1 (Nat.le_of_ble_eq_true rfl) (Nat.le_of_ble_eq_true rfl) ?_
  refine W.eq (g2 := F0 m 4 ls []) rfl ?_
  refine lv_aload_n hx hb dX1_init_4 rfl (lv_at hl 0 rfl) ?_
  refine wy_new (ci := 0) (C := RJx4a65c) (T := TJx4a65c) (N := 3) hx hb hts hinJx4a65c tyJx4a65c tyJx4a65c_ok hown (hts (.classLink RX1 7 RJx4a65c) (by decide +kernel)) (hts (.instantiable RJx4a65c 3) (by decide +kernel)) (hts (.initialized RJx4a65c) (by decide +kernel)) hK hw hA rfl (fs := [.int 0, .null, .int 0]) (fun j hj => match j, hj with | 0, _ => rfl | 1, _ => rfl | 2, _ => rfl | (k + 3), h => absurd h (by omega)) (Nat.le_of_ble_eq_true rfl) (Nat.le_of_ble_eq_true rfl) dX1_init_5 (fun lo H flo hfrlo hclo hnlo hw => ?_)
  have hc_1 := wy_c.app2 hq hfrlo hnlo
  have ne_ox_lo := wy_c.neq hq hfrlo
  refine lv_dup hx hb dX1_init_8 rfl ?_
  refine wy_call (va_runI (As := []) (rest := [.ref lo, .ref ox]) ⟨hx, hb, hml, hown, hts⟩ (m_Jx4a65c_init_da8c8 l hclo) (cwI 0 hts gX1_init_Jx4a65c_init_da8c8 rfl rfl rfl (hts (.initialized RJx4a65c) (by decide +kernel)) (hts (.methodLink RX1 9 yJx4a65c_init_da8c8) (by decide +kernel)) (hts (.instanceMethod yJx4a65c_init_da8c8) (by decide +kernel)) rfl (by decide +kernel) ⟨Nat.le_of_ble_eq_true rfl, Nat.le_of_ble_eq_true rfl⟩) (wl_pS hK hE hw hA) rfl rfl hl.1 rfl (lv_room (Nat.le_of_ble_eq_true rfl)) dX1_init_9 ⟨Nat.le_of_ble_eq_true rfl, Nat.le_of_ble_eq_true rfl⟩) hw hA (fun rw_2 Lw_2 fw_2 H locs hpost hw => ?_)
  obtain ⟨er_2, eL, hqlo, hnl⟩ := hpost
  subst er_2
  obtain rfl := eL.symm
  have hc_3 := wy_c.ne2 hc_1 hnl ne_ox_lo
  refine wy_putF (ci := 2) (v := .ref lo) (ty := .object "java/util/ArrayList") (C := RX1) (T := TX1) (N := 5) hx hb hts hinX1 tyX1 tyX1_ok nmX1 hown hK hw hc_3 rfl 0 (by decide) (hts (.fieldLink RX1 10 "Wheelpay" "rides" "Ljava/util/ArrayList;") (by decide +kernel)) (fun _ h9 => h9) rfl hin rfl (by decide +kernel) rfl rfl (Nat.le_of_ble_eq_true rfl) dX1_init_12 (fun H locs f_4 hs_5 hn_6 hw => ?_)
  have hc_7 := wy_c.ne2 hqlo hn_6 ne_ox_lo.symm
  have hc_8 : wy_c (L ++ [lo]) f_4 ox (.inr (2, [.ref lo, .null, .int 0, .int 0, .int 0])) := hs_5
  refine lv_aload_n hx hb dX1_init_15 rfl (lv_at hl 0 rfl) ?_
  refine lv_iconst (v := 5) hx hb dX1_init_16 (by decide) ?_
  refine wy_newI hx hb (hts (.arrayClass .int) (by decide +kernel)) hK hw hA 5 rfl (by decide) (Nat.le_of_ble_eq_true rfl) (Nat.le_of_ble_eq_true rfl) dX1_init_17 (fun q0 H fq0 hfr0 hcq0 hnq0 hw => ?_)
  have hc_9 := wy_c.app2 hc_8 hfr0 hnq0
  have ne_ox_0 := wy_c.neq hc_8 hfr0
  have hc_10 := wy_c.app2 hc_7 hfr0 hnq0
  have ne_lo_0 := wy_c.neq hc_7 hfr0
  refine wy_putF (ci := 2) (v := .ref q0) (ty := .array .int) (C := RX1) (T := TX1) (N := 5) hx hb hts hinX1 tyX1 tyX1_ok nmX1 hown hK hw hc_9 rfl 1 (by decide) (hts (.fieldLink RX1 16 "Wheelpay" "paidOut" "[I") (by decide +kernel)) (fun _ h9 => h9) rfl hin rfl (by decide +kernel) rfl rfl (Nat.le_of_ble_eq_true rfl) dX1_init_19 (fun H locs f_11 hs_12 hn_13 hw => ?_)
  have hc_14 := wy_c.ne2 hc_10 hn_13 ne_ox_lo.symm
  have hc_15 := wy_c.ne2 hcq0 hn_13 ne_ox_0.symm
  have hc_16 : wy_c ((L ++ [lo]) ++ [q0]) f_11 ox (.inr (2, [.ref lo, .ref q0, .int 0, .int 0, .int 0])) := hs_12
  refine lv_aload_n hx hb dX1_init_22 rfl (lv_at hl 0 rfl) ?_
  refine lv_bipush (v := 100) hx hb dX1_init_23 (by decide) ?_
  refine wy_put (ci := 2) (v := .int 100) (ty := .int) (C := RX1) (T := TX1) (N := 5) hx hb hts hinX1 tyX1 tyX1_ok nmX1 hown hK hw hc_16 rfl 2 (by decide) (hts (.fieldLink RX1 20 "Wheelpay" "kilometreRate" "I") (by decide +kernel)) (fun _ h9 => h9) rfl (by decide +kernel) rfl rfl (Nat.le_of_ble_eq_true rfl) dX1_init_25 (fun H locs f_17 hs_18 hn_19 hw => ?_)
  have hc_20 := wy_c.ne2 hc_14 hn_19 ne_ox_lo.symm
  have hc_21 := wy_c.ne2 hc_15 hn_19 ne_ox_0.symm
  have hc_22 : wy_c ((L ++ [lo]) ++ [q0]) f_17 ox (.inr (2, [.ref lo, .ref q0, .int 100, .int 0, .int 0])) := hs_18
  refine lv_aload_n hx hb dX1_init_28 rfl (lv_at hl 0 rfl) ?_
  refine lv_bipush (v := 20) hx hb dX1_init_29 (by decide) ?_
  refine wy_put (ci := 2) (v := .int 20) (ty := .int) (C := RX1) (T := TX1) (N := 5) hx hb hts hinX1 tyX1 tyX1_ok nmX1 hown hK hw hc_22 rfl 3 (by decide) (hts (.fieldLink RX1 24 "Wheelpay" "minuteRate" "I") (by decide +kernel)) (fun _ h9 => h9) rfl (by decide +kernel) rfl rfl (Nat.le_of_ble_eq_true rfl) dX1_init_31 (fun H locs f_23 hs_24 hn_25 hw => ?_)
  have hc_26 := wy_c.ne2 hc_20 hn_25 ne_ox_lo.symm
  have hc_27 := wy_c.ne2 hc_21 hn_25 ne_ox_0.symm
  have hc_28 : wy_c ((L ++ [lo]) ++ [q0]) f_23 ox (.inr (2, [.ref lo, .ref q0, .int 100, .int 20, .int 0])) := hs_24
  refine lv_aload_n hx hb dX1_init_34 rfl (lv_at hl 0 rfl) ?_
  refine lv_iconst (v := 0) hx hb dX1_init_35 (by decide) ?_
  refine wy_put (ci := 2) (v := .int 0) (ty := .int) (C := RX1) (T := TX1) (N := 5) hx hb hts hinX1 tyX1 tyX1_ok nmX1 hown hK hw hc_28 rfl 4 (by decide) (hts (.fieldLink RX1 27 "Wheelpay" "presentWeek" "I") (by decide +kernel)) (fun _ h9 => h9) rfl (by decide +kernel) rfl rfl (Nat.le_of_ble_eq_true rfl) dX1_init_36 (fun H locs f_29 hs_30 hn_31 hw => ?_)
  have hc_32 := wy_c.ne2 hc_26 hn_31 ne_ox_lo.symm
  have hc_33 := wy_c.ne2 hc_27 hn_31 ne_ox_0.symm
  have hc_34 : wy_c ((L ++ [lo]) ++ [q0]) f_29 ox (.inr (2, [.ref lo, .ref q0, .int 100, .int 20, .int 0])) := hs_30
  exact wy_vW hx hb hr hlocks dX1_init_39 hw (Nat.le_of_ble_eq_true rfl) (Nat.le_of_ble_eq_true rfl) ⟨rfl, lo, fun _ => 0, fun _ => q0, hc_34, ⟨0, _, 0, fun _ => none, hc_32, Or.inl ⟨rfl, rfl, rfl⟩, Nat.le_refl _, by decide, fun k hk => absurd hk (by omega)⟩, hc_33, fun k hk => absurd hk (by omega), by decide, by decide, fun i j hi => absurd hi (by omega), fun i j hi hj _ => by omega⟩
