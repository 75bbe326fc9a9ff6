set_option maxHeartbeats 4000000 in
set_option maxRecDepth 100000 in
theorem m_Jx4a65c_size_8abf5 (l : Launch) {G : wy_G} {L : List Nat} {f : Nat → va_E} {lo n : Nat} {ra : Nat → Nat} (hq : wx_l G L f lo n ra) : Met l yJx4a65c_size_8abf5 wsJx4a65c_size_8abf5 ({ frames := 0, cells := 0, slots := 0, locals := 0 } : Room) (va_Pc [.ref lo] (wy_R G L f)) (vp_Si (fun z => z = nI n)) 0 0 (fun _ => False) := by
  refine Met.ofW (cc := cJx4a65c_size_8abf5) (maxL := 1) (ret := (some .int)) (by decide) rfl ?_
  intro p e s m args below meth c s₁ B hml hv
  obtain ⟨rfl, hP, hK⟩ := hv
  have hx := B.exec
  have hb := B.bytes
  have hr := B.returns
  have hts := atoms_spec (ws := wsJx4a65c_size_8abf5) B.pre
  have hown : s.vm.findClass RJx4a65c = some m.cls := findClass_of_methodNamed B.named
  have hlocks := B.notSynchronized
  have hinJx4a65c : ∀ w ∈ wsJx4a65c0, w ∈ wsJx4a65c_size_8abf5 := by decide +kernel
  obtain ⟨md, he, cap, gg, hL1, hL2, hL3, hL4, hL5⟩ := id hq
  have hl := lv_entry ([.ref lo]) (n := 1) (Nat.le_of_ble_eq_true rfl)
  rw [lg_entry_eq]
  generalize (lg_sl ([.ref lo]) ++ List.replicate (1 - (lg_sl ([.ref lo])).length) Slot.unset).toArray = ls at hl ⊢
  have hl : lv_has ls 1 [(0, .ref lo)] := hl
  refine lv_aload_n hx hb dJx4a65c_size_8abf5_0 rfl (lv_at hl 0 rfl) ?_
  refine wy_get (ci := 0) (v := .int (nI n)) (C := RJx4a65c) (T := TJx4a65c) (N := 3) hx hb hts hinJx4a65c hown hK hP hL1 rfl 2 (by decide) (hts (.fieldLink RJx4a65c 48 "java/util/ArrayList" "size" "I") (by decide +kernel)) (fun _ h9 => h9) rfl dJx4a65c_size_8abf5_1 ?_
  exact wy_iR rfl hx hb hr hlocks dJx4a65c_size_8abf5_4
set_option maxHeartbeats 4000000 in
set_option maxRecDepth 100000 in
theorem m_J3_checkIndex_8e157 (l : Launch)  (p0 p1 : Int32) (i n : Nat) (hi : i < n) (hn : n < 2 ^ 31) (e0 : p0 = nI i) (e1 : p1 = nI n) : Met l yJ3_checkIndex_8e157 wsJ3_checkIndex_8e157 ({ frames := 0, cells := 0, slots := 0, locals := 0 } : Room) (va_Pc [.int p0, .int p1, .null] (fun _ => True)) (vp_Si (fun z => z = p0)) 0 0 (fun _ => False) := by
  refine Met.ofW (cc := cJ3_checkIndex_8e157) (maxL := 3) (ret := (some .int)) (by decide) rfl ?_
  intro p e s m args below meth c s₁ B hml hv
  obtain ⟨rfl, -⟩ := hv
  have hx := B.exec
  have hb := B.bytes
  have hr := B.returns
  have hts := atoms_spec (ws := wsJ3_checkIndex_8e157) B.pre
  have hown : s.vm.findClass RJ3 = some m.cls := findClass_of_methodNamed B.named
  have hlocks := B.notSynchronized
  have hl := lv_entry ([.int p0, .int p1, .null]) (n := 3) (Nat.le_of_ble_eq_true rfl)
  rw [lg_entry_eq]
  generalize (lg_sl ([.int p0, .int p1, .null]) ++ List.replicate (3 - (lg_sl ([.int p0, .int p1, .null])).length) Slot.unset).toArray = ls at hl ⊢
  have hl : lv_has ls 3 [(0, .int p0), (1, .int p1), (2, .null)] := hl
  refine lv_iload_n hx hb dJ3_checkIndex_8e157_0 rfl (lv_at hl 0 rfl) ?_
  refine lv_if_lt (tgt := 9) hx hb dJ3_checkIndex_8e157_1 (by decide) (fun c_1 => ?_) (fun c_1 => ?_)
  · exact absurd c_1 (by rw [e0]; exact nI_pos (by omega))
  · refine lv_iload_n hx hb dJ3_checkIndex_8e157_4 rfl (lv_at hl 0 rfl) ?_
    refine lv_iload_n hx hb dJ3_checkIndex_8e157_5 rfl (lv_at hl 1 rfl) ?_
    refine lv_icmp_lt (tgt := 16) hx hb dJ3_checkIndex_8e157_6 (by decide) (fun c_2 => ?_) (fun c_2 => ?_)
    · have nc_2 : i < n := (wy_lt e0 e1 (by omega) (by omega)).mp c_2
      refine lv_iload_n hx hb dJ3_checkIndex_8e157_16 rfl (lv_at hl 0 rfl) ?_
      exact wy_iR rfl hx hb hr hlocks dJ3_checkIndex_8e157_17
    · have nc_2 : ¬ (i < n) := fun z => c_2 ((wy_lt e0 e1 (by omega) (by omega)).mpr z)
      exact absurd hi nc_2
set_option maxHeartbeats 4000000 in
set_option maxRecDepth 100000 in
theorem m_J15_checkIndex_7cf53 (l : Launch)  (p0 p1 : Int32) (i n : Nat) (hi : i < n) (hn : n < 2 ^ 31) (e0 : p0 = nI i) (e1 : p1 = nI n) : Met l yJ15_checkIndex_7cf53 wsJ15_checkIndex_7cf53 ({ frames := 1, cells := 0, slots := 0, locals := 22 } : Room) (va_Pc [.int p0, .int p1] (fun _ => True)) (vp_Si (fun z => z = p0)) 0 0 (fun _ => False) := by
  refine Met.ofW (cc := cJ15_checkIndex_7cf53) (maxL := 2) (ret := (some .int)) (by decide) rfl ?_
  intro p e s m args below meth c s₁ B hml hv
  obtain ⟨rfl, -⟩ := hv
  have hx := B.exec
  have hb := B.bytes
  have hr := B.returns
  have hts := atoms_spec (ws := wsJ15_checkIndex_7cf53) B.pre
  have hown : s.vm.findClass RJ15 = some m.cls := findClass_of_methodNamed B.named
  have hlocks := B.notSynchronized
  have hl := lv_entry ([.int p0, .int p1]) (n := 2) (Nat.le_of_ble_eq_true rfl)
  rw [lg_entry_eq]
  generalize (lg_sl ([.int p0, .int p1]) ++ List.replicate (2 - (lg_sl ([.int p0, .int p1])).length) Slot.unset).toArray = ls at hl ⊢
  have hl : lv_has ls 2 [(0, .int p0), (1, .int p1)] := hl
  refine lv_iload_n hx hb dJ15_checkIndex_7cf53_0 rfl (lv_at hl 0 rfl) ?_
  refine lv_iload_n hx hb dJ15_checkIndex_7cf53_1 rfl (lv_at hl 1 rfl) ?_
  refine lv_null hx hb dJ15_checkIndex_7cf53_2 ?_
  refine vp_callSi (W.runS (As := [.int p0, .int p1, .null]) (rest := []) ⟨hx, hb, hml, hown, hts⟩ (m_J3_checkIndex_8e157 l p0 p1 i n hi hn e0 e1) (va_cwS 3 hts gJ15_checkIndex_7cf53_J3_checkIndex_8e157 rfl rfl rfl (by decide +kernel) ⟨Nat.le_of_ble_eq_true rfl, Nat.le_of_ble_eq_true rfl⟩) (wy_pSN) rfl rfl hl.1 rfl (lv_room (Nat.le_of_ble_eq_true rfl)) dJ15_checkIndex_7cf53_3 ⟨Nat.le_of_ble_eq_true rfl, Nat.le_of_ble_eq_true rfl⟩) (fun r_1 er_1 => ?_)
  exact wy_iR (by simp only [er_1]) hx hb hr hlocks dJ15_checkIndex_7cf53_6
set_option maxHeartbeats 4000000 in
set_option maxRecDepth 100000 in
theorem m_Jx4a65c_elementData_915e3 (l : Launch) {G : wy_G} {L : List Nat} {f : Nat → va_E} {lo n : Nat} {ra : Nat → Nat} (hq : wx_l G L f lo n ra) (p1 : Int32) (k : Nat) (hk : k < n) (e1 : p1 = nI k) : Met l yJx4a65c_elementData_915e3 wsJx4a65c_elementData_915e3 ({ frames := 0, cells := 0, slots := 0, locals := 0 } : Room) (va_Pc [.ref lo, .int p1] (wy_R G L f)) (va_Sr (fun z => z = ra k) Value.ref) 0 0 (fun _ => False) := by
  refine Met.ofW (cc := cJx4a65c_elementData_915e3) (maxL := 2) (ret := (some (.object "java/lang/Object"))) (by decide) rfl ?_
  intro p e s m args below meth c s₁ B hml hv
  obtain ⟨rfl, hP, hK⟩ := hv
  have hx := B.exec
  have hb := B.bytes
  have hr := B.returns
  have hts := atoms_spec (ws := wsJx4a65c_elementData_915e3) B.pre
  have hown : s.vm.findClass RJx4a65c = some m.cls := findClass_of_methodNamed B.named
  have hlocks := B.notSynchronized
  have hinJx4a65c : ∀ w ∈ wsJx4a65c0, w ∈ wsJx4a65c_elementData_915e3 := by decide +kernel
  obtain ⟨md, he, cap, gg, hL1, hL2, hL3, hL4, hL5⟩ := id hq
  have hL2 : wy_c L f he (.inl (G.2 2, cap, .inr (.inr (.inr (.inr gg))))) := hL2.elim (fun z => absurd z.1 (by omega)) id
  have hl := lv_entry ([.ref lo, .int p1]) (n := 2) (Nat.le_of_ble_eq_true rfl)
  rw [lg_entry_eq]
  generalize (lg_sl ([.ref lo, .int p1]) ++ List.replicate (2 - (lg_sl ([.ref lo, .int p1])).length) Slot.unset).toArray = ls at hl ⊢
  have hl : lv_has ls 2 [(0, .ref lo), (1, .int p1)] := hl
  refine lv_aload_n hx hb dJx4a65c_elementData_915e3_0 rfl (lv_at hl 0 rfl) ?_
  refine wy_get (ci := 0) (v := .ref he) (C := RJx4a65c) (T := TJx4a65c) (N := 3) hx hb hts hinJx4a65c hown hK hP hL1 rfl 1 (by decide) (hts (.fieldLink RJx4a65c 9 "java/util/ArrayList" "elementData" "[Ljava/lang/Object;") (by decide +kernel)) (fun _ h9 => h9) rfl dJx4a65c_elementData_915e3_1 ?_
  refine lv_iload_n hx hb dJx4a65c_elementData_915e3_4 rfl (lv_at hl 1 rfl) ?_
  refine wy_aald hx hb hK hP hL2 (k) e1 (by omega) (by omega) dJx4a65c_elementData_915e3_5 ?_
  rw [show gg k = some (ra k) from hL5 k hk]
  exact wy_aR rfl hx hb hr (Or.inl ⟨_, rfl⟩) hlocks dJx4a65c_elementData_915e3_6
set_option maxHeartbeats 4000000 in
set_option maxRecDepth 100000 in
theorem m_Jx4a65c_get_915e3 (l : Launch) {G : wy_G} {L : List Nat} {f : Nat → va_E} {lo n : Nat} {ra : Nat → Nat} (hq : wx_l G L f lo n ra) (p1 : Int32) (k : Nat) (hk : k < n) (e1 : p1 = nI k) : Met l yJx4a65c_get_915e3 wsJx4a65c_get_915e3 ({ frames := 2, cells := 0, slots := 0, locals := 43 } : Room) (va_Pc [.ref lo, .int p1] (wy_R G L f)) (va_Sr (fun z => z = ra k) Value.ref) 0 0 (fun _ => False) := by
  refine Met.ofW (cc := cJx4a65c_get_915e3) (maxL := 2) (ret := (some (.object "java/lang/Object"))) (by decide) rfl ?_
  intro p e s m args below meth c s₁ B hml hv
  obtain ⟨rfl, hP, hK⟩ := hv
  have hx := B.exec
  have hb := B.bytes
  have hr := B.returns
  have hts := atoms_spec (ws := wsJx4a65c_get_915e3) B.pre
  have hown : s.vm.findClass RJx4a65c = some m.cls := findClass_of_methodNamed B.named
  have hlocks := B.notSynchronized
  have hinJx4a65c : ∀ w ∈ wsJx4a65c0, w ∈ wsJx4a65c_get_915e3 := by decide +kernel
  obtain ⟨md, he, cap, gg, hL1, hL2, hL3, hL4, hL5⟩ := id hq
  have hl := lv_entry ([.ref lo, .int p1]) (n := 2) (Nat.le_of_ble_eq_true rfl)
  rw [lg_entry_eq]
  generalize (lg_sl ([.ref lo, .int p1]) ++ List.replicate (2 - (lg_sl ([.ref lo, .int p1])).length) Slot.unset).toArray = ls at hl ⊢
  have hl : lv_has ls 2 [(0, .ref lo), (1, .int p1)] := hl
  refine lv_iload_n hx hb dJx4a65c_get_915e3_0 rfl (lv_at hl 1 rfl) ?_
  refine lv_aload_n hx hb dJx4a65c_get_915e3_1 rfl (lv_at hl 0 rfl) ?_
  refine wy_get (ci := 0) (v := .int (nI n)) (C := RJx4a65c) (T := TJx4a65c) (N := 3) hx hb hts hinJx4a65c hown hK hP hL1 rfl 2 (by decide) (hts (.fieldLink RJx4a65c 48 "java/util/ArrayList" "size" "I") (by decide +kernel)) (fun _ h9 => h9) rfl dJx4a65c_get_915e3_2 ?_
  refine vp_callSi (W.runS (As := [.int p1, .int (nI n)]) (rest := []) ⟨hx, hb, hml, hown, hts⟩ (m_J15_checkIndex_7cf53 l (p1) (nI n) (k) (n) (by omega) (by omega) e1 rfl) (va_cwS 2 hts gJx4a65c_get_915e3_J15_checkIndex_7cf53 rfl rfl rfl (by decide +kernel) ⟨Nat.le_of_ble_eq_true rfl, Nat.le_of_ble_eq_true rfl⟩) (wy_pSN) rfl rfl hl.1 rfl (lv_room (Nat.le_of_ble_eq_true rfl)) dJx4a65c_get_915e3_5 ⟨Nat.le_of_ble_eq_true rfl, Nat.le_of_ble_eq_true rfl⟩) (fun r_1 er_1 => ?_)
  refine lv_pop hx hb dJx4a65c_get_915e3_8 rfl ?_
  refine lv_aload_n hx hb dJx4a65c_get_915e3_9 rfl (lv_at hl 0 rfl) ?_
  refine lv_iload_n hx hb dJx4a65c_get_915e3_10 rfl (lv_at hl 1 rfl) ?_
  refine va_csr (W.runV (As := [.int p1]) (rest := []) ⟨hx, hb, hml, hown, hts⟩ (m_Jx4a65c_elementData_915e3 l hq (p1) (k) hk e1) (cwV 1 hts gJx4a65c_get_915e3_Jx4a65c_elementData_915e3 rfl rfl rfl (by decide +kernel) ⟨Nat.le_of_ble_eq_true rfl, Nat.le_of_ble_eq_true rfl⟩) (wy_pVR hK hP hL1 rfl) rfl rfl hl.1 rfl (lv_room (Nat.le_of_ble_eq_true rfl)) dJx4a65c_get_915e3_11 ⟨Nat.le_of_ble_eq_true rfl, Nat.le_of_ble_eq_true rfl⟩) (fun r_2 er_2 => ?_)
  subst er_2
  exact wy_aR rfl hx hb hr (Or.inl ⟨_, rfl⟩) hlocks dJx4a65c_get_915e3_14
set_option maxHeartbeats 4000000 in
set_option maxRecDepth 100000 in
theorem m_X1_isDriving (l : Launch) {G : wy_G} {L : List Nat} {f : Nat → va_E} {ox lo : Nat} {ra ar : Nat → Nat} {n : Nat} {km mn : Int32} {wk : Nat} {po : Nat → Int32} {rr : Nat → wr_V} (hq : wx_S G L f ox lo ra ar n km mn wk po rr) (p1 : Int32) : Met l yX1_isDriving wsX1_isDriving ({ frames := 3, cells := 0, slots := 0, locals := 64 } : Room) (va_Pc [.ref ox, .int p1] (wy_R G L f)) (vp_Si (fun z => z = bI (drvS rr n p1))) 0 0 (fun _ => False) := by
  refine Met.ofW (cc := cX1_isDriving) (maxL := 4) (ret := (some .boolean)) (by decide) rfl ?_
  intro p e s m args below meth c s₁ B hml hv
  obtain ⟨rfl, hP, hK⟩ := hv
  have hx := B.exec
  have hb := B.bytes
  have hr := B.returns
  have hts := atoms_spec (ws := wsX1_isDriving) B.pre
  have hown : s.vm.findClass RX1 = some m.cls := findClass_of_methodNamed B.named
  have hlocks := B.notSynchronized
  have hinX1 : ∀ w ∈ wsX10, w ∈ wsX1_isDriving := by decide +kernel
  obtain ⟨md, he, cap, gg, hL1, -⟩ := id hq.2.1
  have hn : n ≤ 40 := hq.2.2.2.2.1
  have hwk : wk ≤ 20 := hq.2.2.2.2.2.1
  have hl := lv_entry ([.ref ox, .int p1]) (n := 4) (Nat.le_of_ble_eq_true rfl)
  rw [lg_entry_eq]
  generalize (lg_sl ([.ref ox, .int p1]) ++ List.replicate (4 - (lg_sl ([.ref ox, .int p1])).length) Slot.unset).toArray = ls at hl ⊢
  have hl : lv_has ls 4 [(0, .ref ox), (1, .int p1)] := hl
  refine lv_iconst (v := 0) hx hb dX1_isDriving_0 (by decide) ?_
  refine lv_istore_n (lv' := [(2, .int 0), (0, .ref ox), (1, .int p1)]) hx hb dX1_isDriving_1 rfl hl (by decide) rfl (fun ls hl => ?_)
  have KK : ∀ (d i : Nat), i + d = n → ∀ (xi_i : Int32), xi_i = nI (i) → anyB (fun k => decide (rdv (rr k) = p1) && !rfi (rr k)) i = false → ∀ ls : Array Slot, lv_has ls 4 [(2, .int xi_i), (0, .ref ox), (1, .int p1)] → W p l e (headSpec wsX1_isDriving ({ frames := 3, cells := 0, slots := 0, locals := 64 } : Room)).room s m ([.ref ox, .int p1] : List Value).toArray below meth c s.heap [] 0 0 (MQ below (vp_Si (fun z => z = bI (drvS rr n p1))) ([.ref ox, .int p1] : List Value).toArray s 0 0 (fun _ => False)) (F0 m 2 ls []) := by
    intro d
    induction d with
    | zero =>
      intro i hd_i xi_i ei_i hany ls hl
      refine lv_iload_n hx hb dX1_isDriving_2 rfl (lv_at hl 0 rfl) ?_
      refine lv_aload_n hx hb dX1_isDriving_3 rfl (lv_at hl 1 rfl) ?_
      refine wy_get (ci := 2) (v := .ref lo) (C := RX1) (T := TX1) (N := 5) hx hb hts hinX1 hown hK hP hq.1 rfl 0 (by decide) (hts (.fieldLink RX1 10 "Wheelpay" "rides" "Ljava/util/ArrayList;") (by decide +kernel)) (fun _ h9 => h9) rfl dX1_isDriving_4 ?_
      refine vp_callSi (W.runV (As := []) (rest := [.int xi_i]) ⟨hx, hb, hml, hown, hts⟩ (m_Jx4a65c_size_8abf5 l hq.2.1) (cwV 0 hts gX1_isDriving_Jx4a65c_size_8abf5 rfl rfl rfl (by decide +kernel) ⟨Nat.le_of_ble_eq_true rfl, Nat.le_of_ble_eq_true rfl⟩) (wy_pVR hK hP hL1 rfl) rfl rfl hl.1 rfl (lv_room (Nat.le_of_ble_eq_true rfl)) dX1_isDriving_7 ⟨Nat.le_of_ble_eq_true rfl, Nat.le_of_ble_eq_true rfl⟩) (fun r_1 er_1 => ?_)
      refine lv_icmp_ge (tgt := 48) hx hb dX1_isDriving_10 (by decide) (fun c_2 => ?_) (fun c_2 => ?_)
      · have nc_2 : n ≤ i := (wy_ge ei_i er_1 (by omega) (by omega)).mp c_2
        obtain rfl : n = i := by omega
        refine lv_iconst (v := 0) hx hb dX1_isDriving_48 (by decide) ?_
        exact wy_zR (by rw [show drvS rr n p1 = false from hany]; rfl) hx hb hr hlocks dX1_isDriving_49
      · have nc_2 : ¬ (n ≤ i) := fun z => c_2 ((wy_ge ei_i er_1 (by omega) (by omega)).mpr z)
        exact absurd nc_2 (by omega)
    | succ d ih_d =>
      intro i hd_i xi_i ei_i hany ls hl
      refine lv_iload_n hx hb dX1_isDriving_2 rfl (lv_at hl 0 rfl) ?_
      refine lv_aload_n hx hb dX1_isDriving_3 rfl (lv_at hl 1 rfl) ?_
      refine wy_get (ci := 2) (v := .ref lo) (C := RX1) (T := TX1) (N := 5) hx hb hts hinX1 hown hK hP hq.1 rfl 0 (by decide) (hts (.fieldLink RX1 10 "Wheelpay" "rides" "Ljava/util/ArrayList;") (by decide +kernel)) (fun _ h9 => h9) rfl dX1_isDriving_4 ?_
      refine vp_callSi (W.runV (As := []) (rest := [.int xi_i]) ⟨hx, hb, hml, hown, hts⟩ (m_Jx4a65c_size_8abf5 l hq.2.1) (cwV 0 hts gX1_isDriving_Jx4a65c_size_8abf5 rfl rfl rfl (by decide +kernel) ⟨Nat.le_of_ble_eq_true rfl, Nat.le_of_ble_eq_true rfl⟩) (wy_pVR hK hP hL1 rfl) rfl rfl hl.1 rfl (lv_room (Nat.le_of_ble_eq_true rfl)) dX1_isDriving_7 ⟨Nat.le_of_ble_eq_true rfl, Nat.le_of_ble_eq_true rfl⟩) (fun r_3 er_3 => ?_)
      refine lv_icmp_ge (tgt := 48) hx hb dX1_isDriving_10 (by decide) (fun c_4 => ?_) (fun c_4 => ?_)
      · have nc_4 : n ≤ i := (wy_ge ei_i er_3 (by omega) (by omega)).mp c_4
        exact absurd nc_4 (by omega)
      · have nc_4 : ¬ (n ≤ i) := fun z => c_4 ((wy_ge ei_i er_3 (by omega) (by omega)).mpr z)
        refine lv_aload_n hx hb dX1_isDriving_13 rfl (lv_at hl 1 rfl) ?_
        refine wy_get (ci := 2) (v := .ref lo) (C := RX1) (T := TX1) (N := 5) hx hb hts hinX1 hown hK hP hq.1 rfl 0 (by decide) (hts (.fieldLink RX1 10 "Wheelpay" "rides" "Ljava/util/ArrayList;") (by decide +kernel)) (fun _ h9 => h9) rfl dX1_isDriving_14 ?_
        refine lv_iload_n hx hb dX1_isDriving_17 rfl (lv_at hl 0 rfl) ?_
        refine va_csr (W.runV (As := [.int xi_i]) (rest := []) ⟨hx, hb, hml, hown, hts⟩ (m_Jx4a65c_get_915e3 l hq.2.1 (xi_i) (i) (by omega) ei_i) (cwV 1 hts gX1_isDriving_Jx4a65c_get_915e3 rfl rfl rfl (by decide +kernel) ⟨Nat.le_of_ble_eq_true rfl, Nat.le_of_ble_eq_true rfl⟩) (wy_pVR hK hP hL1 rfl) rfl rfl hl.1 rfl (lv_room (Nat.le_of_ble_eq_true rfl)) dX1_isDriving_18 ⟨Nat.le_of_ble_eq_true rfl, Nat.le_of_ble_eq_true rfl⟩) (fun r_5 er_5 => ?_)
        subst er_5
        refine wy_cast (ci := 1) hx hb hown (hts (.classLink RX1 55 "Wheelpay$Ride") (by decide +kernel)) hK hP (hq.2.2.2.1 (i) (by omega)).1 rfl dX1_isDriving_21 ?_
        refine lv_astore_n (lv' := [(3, .ref (ra (i))), (2, .int xi_i), (0, .ref ox), (1, .int p1)]) hx hb dX1_isDriving_24 rfl hl (by decide) rfl (fun ls hl => ?_)
        refine lv_aload_n hx hb dX1_isDriving_25 rfl (lv_at hl 0 rfl) ?_
        refine lv_iload_n hx hb dX1_isDriving_26 rfl (lv_at hl 3 rfl) ?_
        refine vp_callSi (W.runV (As := [.int p1]) (rest := []) ⟨hx, hb, hml, hown, hts⟩ (m_X0_isDrivenBy l (hq.2.2.2.1 (i) (by omega)) (p1)) (cwV 1 hts gX1_isDriving_X0_isDrivenBy rfl rfl rfl (by decide +kernel) ⟨Nat.le_of_ble_eq_true rfl, Nat.le_of_ble_eq_true rfl⟩) (wy_pVR hK hP (hq.2.2.2.1 (i) (by omega)).1 rfl) rfl rfl hl.1 rfl (lv_room (Nat.le_of_ble_eq_true rfl)) dX1_isDriving_27 ⟨Nat.le_of_ble_eq_true rfl, Nat.le_of_ble_eq_true rfl⟩) (fun r_6 er_6 => ?_)
        refine lv_if_eq (tgt := 42) hx hb dX1_isDriving_30 (by decide) (fun c_7 => ?_) (fun c_7 => ?_)
        · have bc_7 : (decide (rdv (rr (i)) = p1)) = false := bI_0 (er_6.symm.trans c_7)
          obtain ⟨x_8, ex_8⟩ : ∃ y : Int32, y = xi_i + 1 := ⟨_, rfl⟩
          have nx_8 : x_8 = nI (i + 1) := by rw [ex_8, ei_i, nI_1]
          refine lv_iinc (v := x_8) (lv' := [(2, .int x_8), (3, .ref (ra (i))), (0, .ref ox), (1, .int p1)]) hx hb dX1_isDriving_42 hl (k := 1) rfl (by rw [ex_8]; rfl) (by decide) rfl (fun ls hl => ?_)
          refine lv_goto (tgt := 2) hx hb dX1_isDriving_45 (by decide) ?_
          exact ih_d (i + 1) (by omega) _ nx_8 (by simp only [anyB, hany, Bool.false_or]; simp [bc_7]) ls (lv_sub hl [0, 2, 3] rfl)
        · have bc_7 : (decide (rdv (rr (i)) = p1)) = true := bI_1 (fun z => c_7 (er_6.trans z))
          refine lv_aload_n hx hb dX1_isDriving_33 rfl (lv_at hl 0 rfl) ?_
          refine vp_callSi (W.runV (As := []) (rest := []) ⟨hx, hb, hml, hown, hts⟩ (m_X0_isFinished l (hq.2.2.2.1 (i) (by omega))) (cwV 0 hts gX1_isDriving_X0_isFinished rfl rfl rfl (by decide +kernel) ⟨Nat.le_of_ble_eq_true rfl, Nat.le_of_ble_eq_true rfl⟩) (wy_pVR hK hP (hq.2.2.2.1 (i) (by omega)).1 rfl) rfl rfl hl.1 rfl (lv_room (Nat.le_of_ble_eq_true rfl)) dX1_isDriving_34 ⟨Nat.le_of_ble_eq_true rfl, Nat.le_of_ble_eq_true rfl⟩) (fun r_9 er_9 => ?_)
          refine lv_if_ne (tgt := 42) hx hb dX1_isDriving_37 (by decide) (fun c_10 => ?_) (fun c_10 => ?_)
          · have bc_10 : (rfi (rr (i))) = true := bI_1 (fun z => c_10 (er_9.trans z))
            obtain ⟨x_11, ex_11⟩ : ∃ y : Int32, y = xi_i + 1 := ⟨_, rfl⟩
            have nx_11 : x_11 = nI (i + 1) := by rw [ex_11, ei_i, nI_1]
            refine lv_iinc (v := x_11) (lv' := [(2, .int x_11), (3, .ref (ra (i))), (0, .ref ox), (1, .int p1)]) hx hb dX1_isDriving_42 hl (k := 1) rfl (by rw [ex_11]; rfl) (by decide) rfl (fun ls hl => ?_)
            refine lv_goto (tgt := 2) hx hb dX1_isDriving_45 (by decide) ?_
            exact ih_d (i + 1) (by omega) _ nx_11 (by simp only [anyB, hany, Bool.false_or]; simp [bc_7, bc_10]) ls (lv_sub hl [0, 2, 3] rfl)
          · have bc_10 : (rfi (rr (i))) = false := bI_0 (er_9.symm.trans c_10)
            refine lv_iconst (v := 1) hx hb dX1_isDriving_40 (by decide) ?_
            exact wy_zR (by rw [show drvS rr n p1 = true from anyB_true _ (i := i) (by simp [bc_7, bc_10]) n (by omega)]; rfl) hx hb hr hlocks dX1_isDriving_41
  exact KK (n) 0 (by omega) _ rfl rfl ls (lv_sub hl [0, 1, 2] rfl)
set_option maxHeartbeats 4000000 in
set_option maxRecDepth 100000 in
theorem m_X1_isAnyUnderWay (l : Launch) {G : wy_G} {L : List Nat} {f : Nat → va_E} {ox lo : Nat} {ra ar : Nat → Nat} {n : Nat} {km mn : Int32} {wk : Nat} {po : Nat → Int32} {rr : Nat → wr_V} (hq : wx_S G L f ox lo ra ar n km mn wk po rr) : Met l yX1_isAnyUnderWay wsX1_isAnyUnderWay ({ frames := 3, cells := 0, slots := 0, locals := 64 } : Room) (va_Pc [.ref ox] (wy_R G L f)) (vp_Si (fun z => z = bI (undS rr n))) 0 0 (fun _ => False) := by
  refine Met.ofW (cc := cX1_isAnyUnderWay) (maxL := 2) (ret := (some .boolean)) (by decide) rfl ?_
  intro p e s m args below meth c s₁ B hml hv
  obtain ⟨rfl, hP, hK⟩ := hv
  have hx := B.exec
  have hb := B.bytes
  have hr := B.returns
  have hts := atoms_spec (ws := wsX1_isAnyUnderWay) B.pre
  have hown : s.vm.findClass RX1 = some m.cls := findClass_of_methodNamed B.named
  have hlocks := B.notSynchronized
  have hinX1 : ∀ w ∈ wsX10, w ∈ wsX1_isAnyUnderWay := by decide +kernel
  obtain ⟨md, he, cap, gg, hL1, -⟩ := id hq.2.1
  have hn : n ≤ 40 := hq.2.2.2.2.1
  have hwk : wk ≤ 20 := hq.2.2.2.2.2.1
  have hl := lv_entry ([.ref ox]) (n := 2) (Nat.le_of_ble_eq_true rfl)
  rw [lg_entry_eq]
  generalize (lg_sl ([.ref ox]) ++ List.replicate (2 - (lg_sl ([.ref ox])).length) Slot.unset).toArray = ls at hl ⊢
  have hl : lv_has ls 2 [(0, .ref ox)] := hl
  refine lv_iconst (v := 0) hx hb dX1_isAnyUnderWay_0 (by decide) ?_
  refine lv_istore_n (lv' := [(1, .int 0), (0, .ref ox)]) hx hb dX1_isAnyUnderWay_1 rfl hl (by decide) rfl (fun ls hl => ?_)
  have KK : ∀ (d i : Nat), i + d = n → ∀ (xi_i : Int32), xi_i = nI (i) → anyB (fun k => !rfi (rr k)) i = false → ∀ ls : Array Slot, lv_has ls 2 [(1, .int xi_i), (0, .ref ox)] → W p l e (headSpec wsX1_isAnyUnderWay ({ frames := 3, cells := 0, slots := 0, locals := 64 } : Room)).room s m ([.ref ox] : List Value).toArray below meth c s.heap [] 0 0 (MQ below (vp_Si (fun z => z = bI (undS rr n))) ([.ref ox] : List Value).toArray s 0 0 (fun _ => False)) (F0 m 2 ls []) := by
    intro d
    induction d with
    | zero =>
      intro i hd_i xi_i ei_i hany ls hl
      refine lv_iload_n hx hb dX1_isAnyUnderWay_2 rfl (lv_at hl 0 rfl) ?_
      refine lv_aload_n hx hb dX1_isAnyUnderWay_3 rfl (lv_at hl 1 rfl) ?_
      refine wy_get (ci := 2) (v := .ref lo) (C := RX1) (T := TX1) (N := 5) hx hb hts hinX1 hown hK hP hq.1 rfl 0 (by decide) (hts (.fieldLink RX1 10 "Wheelpay" "rides" "Ljava/util/ArrayList;") (by decide +kernel)) (fun _ h9 => h9) rfl dX1_isAnyUnderWay_4 ?_
      refine vp_callSi (W.runV (As := []) (rest := [.int xi_i]) ⟨hx, hb, hml, hown, hts⟩ (m_Jx4a65c_size_8abf5 l hq.2.1) (cwV 0 hts gX1_isAnyUnderWay_Jx4a65c_size_8abf5 rfl rfl rfl (by decide +kernel) ⟨Nat.le_of_ble_eq_true rfl, Nat.le_of_ble_eq_true rfl⟩) (wy_pVR hK hP hL1 rfl) rfl rfl hl.1 rfl (lv_room (Nat.le_of_ble_eq_true rfl)) dX1_isAnyUnderWay_7 ⟨Nat.le_of_ble_eq_true rfl, Nat.le_of_ble_eq_true rfl⟩) (fun r_1 er_1 => ?_)
      refine lv_icmp_ge (tgt := 38) hx hb dX1_isAnyUnderWay_10 (by decide) (fun c_2 => ?_) (fun c_2 => ?_)
      · have nc_2 : n ≤ i := (wy_ge ei_i er_1 (by omega) (by omega)).mp c_2
        obtain rfl : n = i := by omega
        refine lv_iconst (v := 0) hx hb dX1_isAnyUnderWay_38 (by decide) ?_
        exact wy_zR (by rw [show undS rr n = false from hany]; rfl) hx hb hr hlocks dX1_isAnyUnderWay_39
      · have nc_2 : ¬ (n ≤ i) := fun z => c_2 ((wy_ge ei_i er_1 (by omega) (by omega)).mpr z)
        exact absurd nc_2 (by omega)
    | succ d ih_d =>
      intro i hd_i xi_i ei_i hany ls hl
      refine lv_iload_n hx hb dX1_isAnyUnderWay_2 rfl (lv_at hl 0 rfl) ?_
      refine lv_aload_n hx hb dX1_isAnyUnderWay_3 rfl (lv_at hl 1 rfl) ?_
      refine wy_get (ci := 2) (v := .ref lo) (C := RX1) (T := TX1) (N := 5) hx hb hts hinX1 hown hK hP hq.1 rfl 0 (by decide) (hts (.fieldLink RX1 10 "Wheelpay" "rides" "Ljava/util/ArrayList;") (by decide +kernel)) (fun _ h9 => h9) rfl dX1_isAnyUnderWay_4 ?_
      refine vp_callSi (W.runV (As := []) (rest := [.int xi_i]) ⟨hx, hb, hml, hown, hts⟩ (m_Jx4a65c_size_8abf5 l hq.2.1) (cwV 0 hts gX1_isAnyUnderWay_Jx4a65c_size_8abf5 rfl rfl rfl (by decide +kernel) ⟨Nat.le_of_ble_eq_true rfl, Nat.le_of_ble_eq_true rfl⟩) (wy_pVR hK hP hL1 rfl) rfl rfl hl.1 rfl (lv_room (Nat.le_of_ble_eq_true rfl)) dX1_isAnyUnderWay_7 ⟨Nat.le_of_ble_eq_true rfl, Nat.le_of_ble_eq_true rfl⟩) (fun r_3 er_3 => ?_)
      refine lv_icmp_ge (tgt := 38) hx hb dX1_isAnyUnderWay_10 (by decide) (fun c_4 => ?_) (fun c_4 => ?_)
      · have nc_4 : n ≤ i := (wy_ge ei_i er_3 (by omega) (by omega)).mp c_4
        exact absurd nc_4 (by omega)
      · have nc_4 : ¬ (n ≤ i) := fun z => c_4 ((wy_ge ei_i er_3 (by omega) (by omega)).mpr z)
        refine lv_aload_n hx hb dX1_isAnyUnderWay_13 rfl (lv_at hl 1 rfl) ?_
        refine wy_get (ci := 2) (v := .ref lo) (C := RX1) (T := TX1) (N := 5) hx hb hts hinX1 hown hK hP hq.1 rfl 0 (by decide) (hts (.fieldLink RX1 10 "Wheelpay" "rides" "Ljava/util/ArrayList;") (by decide +kernel)) (fun _ h9 => h9) rfl dX1_isAnyUnderWay_14 ?_
        refine lv_iload_n hx hb dX1_isAnyUnderWay_17 rfl (lv_at hl 0 rfl) ?_
        refine va_csr (W.runV (As := [.int xi_i]) (rest := []) ⟨hx, hb, hml, hown, hts⟩ (m_Jx4a65c_get_915e3 l hq.2.1 (xi_i) (i) (by omega) ei_i) (cwV 1 hts gX1_isAnyUnderWay_Jx4a65c_get_915e3 rfl rfl rfl (by decide +kernel) ⟨Nat.le_of_ble_eq_true rfl, Nat.le_of_ble_eq_true rfl⟩) (wy_pVR hK hP hL1 rfl) rfl rfl hl.1 rfl (lv_room (Nat.le_of_ble_eq_true rfl)) dX1_isAnyUnderWay_18 ⟨Nat.le_of_ble_eq_true rfl, Nat.le_of_ble_eq_true rfl⟩) (fun r_5 er_5 => ?_)
        subst er_5
        refine wy_cast (ci := 1) hx hb hown (hts (.classLink RX1 55 "Wheelpay$Ride") (by decide +kernel)) hK hP (hq.2.2.2.1 (i) (by omega)).1 rfl dX1_isAnyUnderWay_21 ?_
        refine vp_callSi (W.runV (As := []) (rest := []) ⟨hx, hb, hml, hown, hts⟩ (m_X0_isFinished l (hq.2.2.2.1 (i) (by omega))) (cwV 0 hts gX1_isAnyUnderWay_X0_isFinished rfl rfl rfl (by decide +kernel) ⟨Nat.le_of_ble_eq_true rfl, Nat.le_of_ble_eq_true rfl⟩) (wy_pVR hK hP (hq.2.2.2.1 (i) (by omega)).1 rfl) rfl rfl hl.1 rfl (lv_room (Nat.le_of_ble_eq_true rfl)) dX1_isAnyUnderWay_24 ⟨Nat.le_of_ble_eq_true rfl, Nat.le_of_ble_eq_true rfl⟩) (fun r_6 er_6 => ?_)
        refine lv_if_ne (tgt := 32) hx hb dX1_isAnyUnderWay_27 (by decide) (fun c_7 => ?_) (fun c_7 => ?_)
        · have bc_7 : (rfi (rr (i))) = true := bI_1 (fun z => c_7 (er_6.trans z))
          obtain ⟨x_8, ex_8⟩ : ∃ y : Int32, y = xi_i + 1 := ⟨_, rfl⟩
          have nx_8 : x_8 = nI (i + 1) := by rw [ex_8, ei_i, nI_1]
          refine lv_iinc (v := x_8) (lv' := [(1, .int x_8), (0, .ref ox)]) hx hb dX1_isAnyUnderWay_32 hl (k := 0) rfl (by rw [ex_8]; rfl) (by decide) rfl (fun ls hl => ?_)
          refine lv_goto (tgt := 2) hx hb dX1_isAnyUnderWay_35 (by decide) ?_
          exact ih_d (i + 1) (by omega) _ nx_8 (by simp only [anyB, hany, Bool.false_or]; simp [bc_7]) ls (lv_sub hl [0, 1] rfl)
        · have bc_7 : (rfi (rr (i))) = false := bI_0 (er_6.symm.trans c_7)
          refine lv_iconst (v := 1) hx hb dX1_isAnyUnderWay_30 (by decide) ?_
          exact wy_zR (by rw [show undS rr n = true from anyB_true _ (i := i) (by simp [bc_7]) n (by omega)]; rfl) hx hb hr hlocks dX1_isAnyUnderWay_31
  exact KK (n) 0 (by omega) _ rfl rfl ls (lv_sub hl [0, 1] rfl)
set_option maxHeartbeats 4000000 in
set_option maxRecDepth 100000 in
theorem m_X1_earningsFor (l : Launch) {G : wy_G} {L : List Nat} {f : Nat → va_E} {ox lo : Nat} {ra ar : Nat → Nat} {n : Nat} {km mn : Int32} {wk : Nat} {po : Nat → Int32} {rr : Nat → wr_V} (hq : wx_S G L f ox lo ra ar n km mn wk po rr) (p1 p2 : Int32) : Met l yX1_earningsFor wsX1_earningsFor ({ frames := 3, cells := 0, slots := 0, locals := 65 } : Room) (va_Pc [.ref ox, .int p1, .int p2] (wy_R G L f)) (vp_Si (fun z => z = earnS rr n p1 p2)) 0 0 (fun _ => False) := by
  refine Met.ofW (cc := cX1_earningsFor) (maxL := 6) (ret := (some .int)) (by decide) rfl ?_
  intro p e s m args below meth c s₁ B hml hv
  obtain ⟨rfl, hP, hK⟩ := hv
  have hx := B.exec
  have hb := B.bytes
  have hr := B.returns
  have hts := atoms_spec (ws := wsX1_earningsFor) B.pre
  have hown : s.vm.findClass RX1 = some m.cls := findClass_of_methodNamed B.named
  have hlocks := B.notSynchronized
  have hinX1 : ∀ w ∈ wsX10, w ∈ wsX1_earningsFor := by decide +kernel
  obtain ⟨md, he, cap, gg, hL1, -⟩ := id hq.2.1
  have hn : n ≤ 40 := hq.2.2.2.2.1
  have hwk : wk ≤ 20 := hq.2.2.2.2.2.1
  have hl := lv_entry ([.ref ox, .int p1, .int p2]) (n := 6) (Nat.le_of_ble_eq_true rfl)
  rw [lg_entry_eq]
  generalize (lg_sl ([.ref ox, .int p1, .int p2]) ++ List.replicate (6 - (lg_sl ([.ref ox, .int p1, .int p2])).length) Slot.unset).toArray = ls at hl ⊢
  have hl : lv_has ls 6 [(0, .ref ox), (1, .int p1), (2, .int p2)] := hl
  refine lv_iconst (v := 0) hx hb dX1_earningsFor_0 (by decide) ?_
  refine lv_istore_n (lv' := [(3, .int 0), (0, .ref ox), (1, .int p1), (2, .int p2)]) hx hb dX1_earningsFor_1 rfl hl (by decide) rfl (fun ls hl => ?_)
  refine lv_iconst (v := 0) hx hb dX1_earningsFor_2 (by decide) ?_
  refine lv_istore (lv' := [(4, .int 0), (3, .int 0), (0, .ref ox), (1, .int p1), (2, .int p2)]) hx hb dX1_earningsFor_3 hl (by decide) rfl (fun ls hl => ?_)
  have KK : ∀ (d i : Nat), i + d = n → ∀ (xi_i : Int32), xi_i = nI (i) → ∀ (a_s : Int32), a_s = bx_sum (fun k => if fby rr p1 p2 k then bx_sum (fdr (rr k)) 10 else 0) i → ∀ ls : Array Slot, lv_has ls 6 [(4, .int xi_i), (3, .int a_s), (0, .ref ox), (1, .int p1), (2, .int p2)] → W p l e (headSpec wsX1_earningsFor ({ frames := 3, cells := 0, slots := 0, locals := 65 } : Room)).room s m ([.ref ox, .int p1, .int p2] : List Value).toArray below meth c s.heap [] 0 0 (MQ below (vp_Si (fun z => z = earnS rr n p1 p2)) ([.ref ox, .int p1, .int p2] : List Value).toArray s 0 0 (fun _ => False)) (F0 m 5 ls []) := by
    intro d
    induction d with
    | zero =>
      intro i hd_i xi_i ei_i a_s ha_s ls hl
      refine lv_iload hx hb dX1_earningsFor_5 (lv_at hl 0 rfl) ?_
      refine lv_aload_n hx hb dX1_earningsFor_7 rfl (lv_at hl 2 rfl) ?_
      refine wy_get (ci := 2) (v := .ref lo) (C := RX1) (T := TX1) (N := 5) hx hb hts hinX1 hown hK hP hq.1 rfl 0 (by decide) (hts (.fieldLink RX1 10 "Wheelpay" "rides" "Ljava/util/ArrayList;") (by decide +kernel)) (fun _ h9 => h9) rfl dX1_earningsFor_8 ?_
      refine vp_callSi (W.runV (As := []) (rest := [.int xi_i]) ⟨hx, hb, hml, hown, hts⟩ (m_Jx4a65c_size_8abf5 l hq.2.1) (cwV 0 hts gX1_earningsFor_Jx4a65c_size_8abf5 rfl rfl rfl (by decide +kernel) ⟨Nat.le_of_ble_eq_true rfl, Nat.le_of_ble_eq_true rfl⟩) (wy_pVR hK hP hL1 rfl) rfl rfl hl.1 rfl (lv_room (Nat.le_of_ble_eq_true rfl)) dX1_earningsFor_11 ⟨Nat.le_of_ble_eq_true rfl, Nat.le_of_ble_eq_true rfl⟩) (fun r_1 er_1 => ?_)
      refine lv_icmp_ge (tgt := 55) hx hb dX1_earningsFor_14 (by decide) (fun c_2 => ?_) (fun c_2 => ?_)
      · have nc_2 : n ≤ i := (wy_ge ei_i er_1 (by omega) (by omega)).mp c_2
        obtain rfl : n = i := by omega
        refine lv_iload_n hx hb dX1_earningsFor_55 rfl (lv_at hl 1 rfl) ?_
        exact wy_iR (by simp only [ha_s, er_1]; rfl) hx hb hr hlocks dX1_earningsFor_56
      · have nc_2 : ¬ (n ≤ i) := fun z => c_2 ((wy_ge ei_i er_1 (by omega) (by omega)).mpr z)
        exact absurd nc_2 (by omega)
    | succ d ih_d =>
      intro i hd_i xi_i ei_i a_s ha_s ls hl
      refine lv_iload hx hb dX1_earningsFor_5 (lv_at hl 0 rfl) ?_
      refine lv_aload_n hx hb dX1_earningsFor_7 rfl (lv_at hl 2 rfl) ?_
      refine wy_get (ci := 2) (v := .ref lo) (C := RX1) (T := TX1) (N := 5) hx hb hts hinX1 hown hK hP hq.1 rfl 0 (by decide) (hts (.fieldLink RX1 10 "Wheelpay" "rides" "Ljava/util/ArrayList;") (by decide +kernel)) (fun _ h9 => h9) rfl dX1_earningsFor_8 ?_
      refine vp_callSi (W.runV (As := []) (rest := [.int xi_i]) ⟨hx, hb, hml, hown, hts⟩ (m_Jx4a65c_size_8abf5 l hq.2.1) (cwV 0 hts gX1_earningsFor_Jx4a65c_size_8abf5 rfl rfl rfl (by decide +kernel) ⟨Nat.le_of_ble_eq_true rfl, Nat.le_of_ble_eq_true rfl⟩) (wy_pVR hK hP hL1 rfl) rfl rfl hl.1 rfl (lv_room (Nat.le_of_ble_eq_true rfl)) dX1_earningsFor_11 ⟨Nat.le_of_ble_eq_true rfl, Nat.le_of_ble_eq_true rfl⟩) (fun r_3 er_3 => ?_)
      refine lv_icmp_ge (tgt := 55) hx hb dX1_earningsFor_14 (by decide) (fun c_4 => ?_) (fun c_4 => ?_)
      · have nc_4 : n ≤ i := (wy_ge ei_i er_3 (by omega) (by omega)).mp c_4
        exact absurd nc_4 (by omega)
      · have nc_4 : ¬ (n ≤ i) := fun z => c_4 ((wy_ge ei_i er_3 (by omega) (by omega)).mpr z)
        refine lv_aload_n hx hb dX1_earningsFor_17 rfl (lv_at hl 2 rfl) ?_
        refine wy_get (ci := 2) (v := .ref lo) (C := RX1) (T := TX1) (N := 5) hx hb hts hinX1 hown hK hP hq.1 rfl 0 (by decide) (hts (.fieldLink RX1 10 "Wheelpay" "rides" "Ljava/util/ArrayList;") (by decide +kernel)) (fun _ h9 => h9) rfl dX1_earningsFor_18 ?_
        refine lv_iload hx hb dX1_earningsFor_21 (lv_at hl 0 rfl) ?_
        refine va_csr (W.runV (As := [.int xi_i]) (rest := []) ⟨hx, hb, hml, hown, hts⟩ (m_Jx4a65c_get_915e3 l hq.2.1 (xi_i) (i) (by omega) ei_i) (cwV 1 hts gX1_earningsFor_Jx4a65c_get_915e3 rfl rfl rfl (by decide +kernel) ⟨Nat.le_of_ble_eq_true rfl, Nat.le_of_ble_eq_true rfl⟩) (wy_pVR hK hP hL1 rfl) rfl rfl hl.1 rfl (lv_room (Nat.le_of_ble_eq_true rfl)) dX1_earningsFor_23 ⟨Nat.le_of_ble_eq_true rfl, Nat.le_of_ble_eq_true rfl⟩) (fun r_5 er_5 => ?_)
        subst er_5
        refine wy_cast (ci := 1) hx hb hown (hts (.classLink RX1 55 "Wheelpay$Ride") (by decide +kernel)) hK hP (hq.2.2.2.1 (i) (by omega)).1 rfl dX1_earningsFor_26 ?_
        refine lv_astore (lv' := [(5, .ref (ra (i))), (4, .int xi_i), (3, .int a_s), (0, .ref ox), (1, .int p1), (2, .int p2)]) hx hb dX1_earningsFor_29 hl (by decide) rfl (fun ls hl => ?_)
        refine lv_aload hx hb dX1_earningsFor_31 (lv_at hl 0 rfl) ?_
        refine lv_iload_n hx hb dX1_earningsFor_33 rfl (lv_at hl 4 rfl) ?_
        refine lv_iload_n hx hb dX1_earningsFor_34 rfl (lv_at hl 5 rfl) ?_
        refine vp_callSi (W.runV (As := [.int p1, .int p2]) (rest := []) ⟨hx, hb, hml, hown, hts⟩ (m_X0_isFinishedBy l (hq.2.2.2.1 (i) (by omega)) (p1) (p2)) (cwV 2 hts gX1_earningsFor_X0_isFinishedBy rfl rfl rfl (by decide +kernel) ⟨Nat.le_of_ble_eq_true rfl, Nat.le_of_ble_eq_true rfl⟩) (wy_pVR hK hP (hq.2.2.2.1 (i) (by omega)).1 rfl) rfl rfl hl.1 rfl (lv_room (Nat.le_of_ble_eq_true rfl)) dX1_earningsFor_35 ⟨Nat.le_of_ble_eq_true rfl, Nat.le_of_ble_eq_true rfl⟩) (fun r_6 er_6 => ?_)
        refine lv_if_eq (tgt := 49) hx hb dX1_earningsFor_38 (by decide) (fun c_7 => ?_) (fun c_7 => ?_)
        · have bc_7 : (fbyR (rr (i)) p1 p2) = false := bI_0 (er_6.symm.trans c_7)
          obtain ⟨x_8, ex_8⟩ : ∃ y : Int32, y = xi_i + 1 := ⟨_, rfl⟩
          have nx_8 : x_8 = nI (i + 1) := by rw [ex_8, ei_i, nI_1]
          refine lv_iinc (v := x_8) (lv' := [(4, .int x_8), (5, .ref (ra (i))), (3, .int a_s), (0, .ref ox), (1, .int p1), (2, .int p2)]) hx hb dX1_earningsFor_49 hl (k := 1) rfl (by rw [ex_8]; rfl) (by decide) rfl (fun ls hl => ?_)
          refine lv_goto (tgt := 5) hx hb dX1_earningsFor_52 (by decide) ?_
          exact ih_d (i + 1) (by omega) _ nx_8 _ (by simp [bx_sum, fby, fok, ha_s, er_3, er_6, ex_8, bc_7]) ls (lv_sub hl [0, 2, 3, 4, 5] rfl)
        · have bc_7 : (fbyR (rr (i)) p1 p2) = true := bI_1 (fun z => c_7 (er_6.trans z))
          refine lv_iload_n hx hb dX1_earningsFor_41 rfl (lv_at hl 2 rfl) ?_
          refine lv_aload hx hb dX1_earningsFor_42 (lv_at hl 0 rfl) ?_
          refine vp_callSi (W.runV (As := []) (rest := [.int a_s]) ⟨hx, hb, hml, hown, hts⟩ (m_X0_allForDriver l (hq.2.2.2.1 (i) (by omega))) (cwV 0 hts gX1_earningsFor_X0_allForDriver rfl rfl rfl (by decide +kernel) ⟨Nat.le_of_ble_eq_true rfl, Nat.le_of_ble_eq_true rfl⟩) (wy_pVR hK hP (hq.2.2.2.1 (i) (by omega)).1 rfl) rfl rfl hl.1 rfl (lv_room (Nat.le_of_ble_eq_true rfl)) dX1_earningsFor_44 ⟨Nat.le_of_ble_eq_true rfl, Nat.le_of_ble_eq_true rfl⟩) (fun r_9 er_9 => ?_)
          refine lv_iadd hx hb dX1_earningsFor_47 ?_
          refine lv_topi (fun x_10 ex_10 => ?_)
          refine lv_istore_n (lv' := [(3, .int x_10), (5, .ref (ra (i))), (4, .int xi_i), (0, .ref ox), (1, .int p1), (2, .int p2)]) hx hb dX1_earningsFor_48 rfl hl (by decide) rfl (fun ls hl => ?_)
          obtain ⟨x_11, ex_11⟩ : ∃ y : Int32, y = xi_i + 1 := ⟨_, rfl⟩
          have nx_11 : x_11 = nI (i + 1) := by rw [ex_11, ei_i, nI_1]
          refine lv_iinc (v := x_11) (lv' := [(4, .int x_11), (3, .int x_10), (5, .ref (ra (i))), (0, .ref ox), (1, .int p1), (2, .int p2)]) hx hb dX1_earningsFor_49 hl (k := 2) rfl (by rw [ex_11]; rfl) (by decide) rfl (fun ls hl => ?_)
          refine lv_goto (tgt := 5) hx hb dX1_earningsFor_52 (by decide) ?_
          exact ih_d (i + 1) (by omega) _ nx_11 _ (by simp [bx_sum, fby, fok, ha_s, er_3, er_6, er_9, ex_10, ex_11, bc_7]) ls (lv_sub hl [0, 1, 3, 4, 5] rfl)
  exact KK (n) 0 (by omega) _ rfl _ rfl ls (lv_sub hl [0, 1, 2, 3, 4] rfl)
set_option maxHeartbeats 4000000 in
set_option maxRecDepth 100000 in
theorem m_X1_floorFor (l : Launch) {G : wy_G} {L : List Nat} {f : Nat → va_E} {ox lo : Nat} {ra ar : Nat → Nat} {n : Nat} {km mn : Int32} {wk : Nat} {po : Nat → Int32} {rr : Nat → wr_V} (hq : wx_S G L f ox lo ra ar n km mn wk po rr) (p1 p2 : Int32) : Met l yX1_floorFor wsX1_floorFor ({ frames := 3, cells := 0, slots := 0, locals := 64 } : Room) (va_Pc [.ref ox, .int p1, .int p2] (wy_R G L f)) (vp_Si (fun z => z = floorS rr n p1 p2)) 0 0 (fun _ => False) := by
  refine Met.ofW (cc := cX1_floorFor) (maxL := 6) (ret := (some .int)) (by decide) rfl ?_
  intro p e s m args below meth c s₁ B hml hv
  obtain ⟨rfl, hP, hK⟩ := hv
  have hx := B.exec
  have hb := B.bytes
  have hr := B.returns
  have hts := atoms_spec (ws := wsX1_floorFor) B.pre
  have hown : s.vm.findClass RX1 = some m.cls := findClass_of_methodNamed B.named
  have hlocks := B.notSynchronized
  have hinX1 : ∀ w ∈ wsX10, w ∈ wsX1_floorFor := by decide +kernel
  obtain ⟨md, he, cap, gg, hL1, -⟩ := id hq.2.1
  have hn : n ≤ 40 := hq.2.2.2.2.1
  have hwk : wk ≤ 20 := hq.2.2.2.2.2.1
  have hl := lv_entry ([.ref ox, .int p1, .int p2]) (n := 6) (Nat.le_of_ble_eq_true rfl)
  rw [lg_entry_eq]
  generalize (lg_sl ([.ref ox, .int p1, .int p2]) ++ List.replicate (6 - (lg_sl ([.ref ox, .int p1, .int p2])).length) Slot.unset).toArray = ls at hl ⊢
  have hl : lv_has ls 6 [(0, .ref ox), (1, .int p1), (2, .int p2)] := hl
  refine lv_iconst (v := 0) hx hb dX1_floorFor_0 (by decide) ?_
  refine lv_istore_n (lv' := [(3, .int 0), (0, .ref ox), (1, .int p1), (2, .int p2)]) hx hb dX1_floorFor_1 rfl hl (by decide) rfl (fun ls hl => ?_)
  refine lv_iconst (v := 0) hx hb dX1_floorFor_2 (by decide) ?_
  refine lv_istore (lv' := [(4, .int 0), (3, .int 0), (0, .ref ox), (1, .int p1), (2, .int p2)]) hx hb dX1_floorFor_3 hl (by decide) rfl (fun ls hl => ?_)
  have KK : ∀ (d i : Nat), i + d = n → ∀ (xi_i : Int32), xi_i = nI (i) → ∀ (a_s : Int32), a_s = bx_sum (fun k => if fok rr p1 p2 k then rmi (rr k) else 0) i → ∀ ls : Array Slot, lv_has ls 6 [(4, .int xi_i), (3, .int a_s), (0, .ref ox), (1, .int p1), (2, .int p2)] → W p l e (headSpec wsX1_floorFor ({ frames := 3, cells := 0, slots := 0, locals := 64 } : Room)).room s m ([.ref ox, .int p1, .int p2] : List Value).toArray below meth c s.heap [] 0 0 (MQ below (vp_Si (fun z => z = floorS rr n p1 p2)) ([.ref ox, .int p1, .int p2] : List Value).toArray s 0 0 (fun _ => False)) (F0 m 5 ls []) := by
    intro d
    induction d with
    | zero =>
      intro i hd_i xi_i ei_i a_s ha_s ls hl
      refine lv_iload hx hb dX1_floorFor_5 (lv_at hl 0 rfl) ?_
      refine lv_aload_n hx hb dX1_floorFor_7 rfl (lv_at hl 2 rfl) ?_
      refine wy_get (ci := 2) (v := .ref lo) (C := RX1) (T := TX1) (N := 5) hx hb hts hinX1 hown hK hP hq.1 rfl 0 (by decide) (hts (.fieldLink RX1 10 "Wheelpay" "rides" "Ljava/util/ArrayList;") (by decide +kernel)) (fun _ h9 => h9) rfl dX1_floorFor_8 ?_
      refine vp_callSi (W.runV (As := []) (rest := [.int xi_i]) ⟨hx, hb, hml, hown, hts⟩ (m_Jx4a65c_size_8abf5 l hq.2.1) (cwV 0 hts gX1_floorFor_Jx4a65c_size_8abf5 rfl rfl rfl (by decide +kernel) ⟨Nat.le_of_ble_eq_true rfl, Nat.le_of_ble_eq_true rfl⟩) (wy_pVR hK hP hL1 rfl) rfl rfl hl.1 rfl (lv_room (Nat.le_of_ble_eq_true rfl)) dX1_floorFor_11 ⟨Nat.le_of_ble_eq_true rfl, Nat.le_of_ble_eq_true rfl⟩) (fun r_1 er_1 => ?_)
      refine lv_icmp_ge (tgt := 63) hx hb dX1_floorFor_14 (by decide) (fun c_2 => ?_) (fun c_2 => ?_)
      · have nc_2 : n ≤ i := (wy_ge ei_i er_1 (by omega) (by omega)).mp c_2
        obtain rfl : n = i := by omega
        refine lv_sipush (v := 1500) hx hb dX1_floorFor_63 (by decide) ?_
        refine lv_iload_n hx hb dX1_floorFor_66 rfl (lv_at hl 1 rfl) ?_
        refine lv_imul hx hb dX1_floorFor_67 ?_
        refine lv_topi (fun x_3 ex_3 => ?_)
        refine lv_bipush (v := 60) hx hb dX1_floorFor_68 (by decide) ?_
        refine lv_idiv hx hb dX1_floorFor_70 (by decide) ?_
        refine lv_topi (fun x_4 ex_4 => ?_)
        exact wy_iR (by simp only [ha_s, er_1, ex_3, ex_4]; rfl) hx hb hr hlocks dX1_floorFor_71
      · have nc_2 : ¬ (n ≤ i) := fun z => c_2 ((wy_ge ei_i er_1 (by omega) (by omega)).mpr z)
        exact absurd nc_2 (by omega)
    | succ d ih_d =>
      intro i hd_i xi_i ei_i a_s ha_s ls hl
      refine lv_iload hx hb dX1_floorFor_5 (lv_at hl 0 rfl) ?_
      refine lv_aload_n hx hb dX1_floorFor_7 rfl (lv_at hl 2 rfl) ?_
      refine wy_get (ci := 2) (v := .ref lo) (C := RX1) (T := TX1) (N := 5) hx hb hts hinX1 hown hK hP hq.1 rfl 0 (by decide) (hts (.fieldLink RX1 10 "Wheelpay" "rides" "Ljava/util/ArrayList;") (by decide +kernel)) (fun _ h9 => h9) rfl dX1_floorFor_8 ?_
      refine vp_callSi (W.runV (As := []) (rest := [.int xi_i]) ⟨hx, hb, hml, hown, hts⟩ (m_Jx4a65c_size_8abf5 l hq.2.1) (cwV 0 hts gX1_floorFor_Jx4a65c_size_8abf5 rfl rfl rfl (by decide +kernel) ⟨Nat.le_of_ble_eq_true rfl, Nat.le_of_ble_eq_true rfl⟩) (wy_pVR hK hP hL1 rfl) rfl rfl hl.1 rfl (lv_room (Nat.le_of_ble_eq_true rfl)) dX1_floorFor_11 ⟨Nat.le_of_ble_eq_true rfl, Nat.le_of_ble_eq_true rfl⟩) (fun r_5 er_5 => ?_)
      refine lv_icmp_ge (tgt := 63) hx hb dX1_floorFor_14 (by decide) (fun c_6 => ?_) (fun c_6 => ?_)
      · have nc_6 : n ≤ i := (wy_ge ei_i er_5 (by omega) (by omega)).mp c_6
        exact absurd nc_6 (by omega)
      · have nc_6 : ¬ (n ≤ i) := fun z => c_6 ((wy_ge ei_i er_5 (by omega) (by omega)).mpr z)
        refine lv_aload_n hx hb dX1_floorFor_17 rfl (lv_at hl 2 rfl) ?_
        refine wy_get (ci := 2) (v := .ref lo) (C := RX1) (T := TX1) (N := 5) hx hb hts hinX1 hown hK hP hq.1 rfl 0 (by decide) (hts (.fieldLink RX1 10 "Wheelpay" "rides" "Ljava/util/ArrayList;") (by decide +kernel)) (fun _ h9 => h9) rfl dX1_floorFor_18 ?_
        refine lv_iload hx hb dX1_floorFor_21 (lv_at hl 0 rfl) ?_
        refine va_csr (W.runV (As := [.int xi_i]) (rest := []) ⟨hx, hb, hml, hown, hts⟩ (m_Jx4a65c_get_915e3 l hq.2.1 (xi_i) (i) (by omega) ei_i) (cwV 1 hts gX1_floorFor_Jx4a65c_get_915e3 rfl rfl rfl (by decide +kernel) ⟨Nat.le_of_ble_eq_true rfl, Nat.le_of_ble_eq_true rfl⟩) (wy_pVR hK hP hL1 rfl) rfl rfl hl.1 rfl (lv_room (Nat.le_of_ble_eq_true rfl)) dX1_floorFor_23 ⟨Nat.le_of_ble_eq_true rfl, Nat.le_of_ble_eq_true rfl⟩) (fun r_7 er_7 => ?_)
        subst er_7
        refine wy_cast (ci := 1) hx hb hown (hts (.classLink RX1 55 "Wheelpay$Ride") (by decide +kernel)) hK hP (hq.2.2.2.1 (i) (by omega)).1 rfl dX1_floorFor_26 ?_
        refine lv_astore (lv' := [(5, .ref (ra (i))), (4, .int xi_i), (3, .int a_s), (0, .ref ox), (1, .int p1), (2, .int p2)]) hx hb dX1_floorFor_29 hl (by decide) rfl (fun ls hl => ?_)
        refine lv_aload hx hb dX1_floorFor_31 (lv_at hl 0 rfl) ?_
        refine lv_iload_n hx hb dX1_floorFor_33 rfl (lv_at hl 4 rfl) ?_
        refine lv_iload_n hx hb dX1_floorFor_34 rfl (lv_at hl 5 rfl) ?_
        refine vp_callSi (W.runV (As := [.int p1, .int p2]) (rest := []) ⟨hx, hb, hml, hown, hts⟩ (m_X0_isFinishedBy l (hq.2.2.2.1 (i) (by omega)) (p1) (p2)) (cwV 2 hts gX1_floorFor_X0_isFinishedBy rfl rfl rfl (by decide +kernel) ⟨Nat.le_of_ble_eq_true rfl, Nat.le_of_ble_eq_true rfl⟩) (wy_pVR hK hP (hq.2.2.2.1 (i) (by omega)).1 rfl) rfl rfl hl.1 rfl (lv_room (Nat.le_of_ble_eq_true rfl)) dX1_floorFor_35 ⟨Nat.le_of_ble_eq_true rfl, Nat.le_of_ble_eq_true rfl⟩) (fun r_8 er_8 => ?_)
        refine lv_if_eq (tgt := 57) hx hb dX1_floorFor_38 (by decide) (fun c_9 => ?_) (fun c_9 => ?_)
        · have bc_9 : (fbyR (rr (i)) p1 p2) = false := bI_0 (er_8.symm.trans c_9)
          obtain ⟨x_10, ex_10⟩ : ∃ y : Int32, y = xi_i + 1 := ⟨_, rfl⟩
          have nx_10 : x_10 = nI (i + 1) := by rw [ex_10, ei_i, nI_1]
          refine lv_iinc (v := x_10) (lv' := [(4, .int x_10), (5, .ref (ra (i))), (3, .int a_s), (0, .ref ox), (1, .int p1), (2, .int p2)]) hx hb dX1_floorFor_57 hl (k := 1) rfl (by rw [ex_10]; rfl) (by decide) rfl (fun ls hl => ?_)
          refine lv_goto (tgt := 5) hx hb dX1_floorFor_60 (by decide) ?_
          exact ih_d (i + 1) (by omega) _ nx_10 _ (by simp [bx_sum, fby, fok, ha_s, er_5, er_8, ex_10, bc_9]) ls (lv_sub hl [0, 2, 3, 4, 5] rfl)
        · have bc_9 : (fbyR (rr (i)) p1 p2) = true := bI_1 (fun z => c_9 (er_8.trans z))
          refine lv_aload hx hb dX1_floorFor_41 (lv_at hl 0 rfl) ?_
          refine vp_callSi (W.runV (As := []) (rest := []) ⟨hx, hb, hml, hown, hts⟩ (m_X0_countsAsVoid l (hq.2.2.2.1 (i) (by omega))) (cwV 0 hts gX1_floorFor_X0_countsAsVoid rfl rfl rfl (by decide +kernel) ⟨Nat.le_of_ble_eq_true rfl, Nat.le_of_ble_eq_true rfl⟩) (wy_pVR hK hP (hq.2.2.2.1 (i) (by omega)).1 rfl) rfl rfl hl.1 rfl (lv_room (Nat.le_of_ble_eq_true rfl)) dX1_floorFor_43 ⟨Nat.le_of_ble_eq_true rfl, Nat.le_of_ble_eq_true rfl⟩) (fun r_11 er_11 => ?_)
          refine lv_if_ne (tgt := 57) hx hb dX1_floorFor_46 (by decide) (fun c_12 => ?_) (fun c_12 => ?_)
          · have bc_12 : (voidR (rr (i))) = true := bI_1 (fun z => c_12 (er_11.trans z))
            obtain ⟨x_13, ex_13⟩ : ∃ y : Int32, y = xi_i + 1 := ⟨_, rfl⟩
            have nx_13 : x_13 = nI (i + 1) := by rw [ex_13, ei_i, nI_1]
            refine lv_iinc (v := x_13) (lv' := [(4, .int x_13), (5, .ref (ra (i))), (3, .int a_s), (0, .ref ox), (1, .int p1), (2, .int p2)]) hx hb dX1_floorFor_57 hl (k := 1) rfl (by rw [ex_13]; rfl) (by decide) rfl (fun ls hl => ?_)
            refine lv_goto (tgt := 5) hx hb dX1_floorFor_60 (by decide) ?_
            exact ih_d (i + 1) (by omega) _ nx_13 _ (by simp [bx_sum, fby, fok, ha_s, er_5, er_8, er_11, ex_13, bc_9, bc_12]) ls (lv_sub hl [0, 2, 3, 4, 5] rfl)
          · have bc_12 : (voidR (rr (i))) = false := bI_0 (er_11.symm.trans c_12)
            refine lv_iload_n hx hb dX1_floorFor_49 rfl (lv_at hl 2 rfl) ?_
            refine lv_aload hx hb dX1_floorFor_50 (lv_at hl 0 rfl) ?_
            refine vp_callSi (W.runV (As := []) (rest := [.int a_s]) ⟨hx, hb, hml, hown, hts⟩ (m_X0_allMinutes l (hq.2.2.2.1 (i) (by omega))) (cwV 0 hts gX1_floorFor_X0_allMinutes rfl rfl rfl (by decide +kernel) ⟨Nat.le_of_ble_eq_true rfl, Nat.le_of_ble_eq_true rfl⟩) (wy_pVR hK hP (hq.2.2.2.1 (i) (by omega)).1 rfl) rfl rfl hl.1 rfl (lv_room (Nat.le_of_ble_eq_true rfl)) dX1_floorFor_52 ⟨Nat.le_of_ble_eq_true rfl, Nat.le_of_ble_eq_true rfl⟩) (fun r_14 er_14 => ?_)
            refine lv_iadd hx hb dX1_floorFor_55 ?_
            refine lv_topi (fun x_15 ex_15 => ?_)
            refine lv_istore_n (lv' := [(3, .int x_15), (5, .ref (ra (i))), (4, .int xi_i), (0, .ref ox), (1, .int p1), (2, .int p2)]) hx hb dX1_floorFor_56 rfl hl (by decide) rfl (fun ls hl => ?_)
            obtain ⟨x_16, ex_16⟩ : ∃ y : Int32, y = xi_i + 1 := ⟨_, rfl⟩
            have nx_16 : x_16 = nI (i + 1) := by rw [ex_16, ei_i, nI_1]
            refine lv_iinc (v := x_16) (lv' := [(4, .int x_16), (3, .int x_15), (5, .ref (ra (i))), (0, .ref ox), (1, .int p1), (2, .int p2)]) hx hb dX1_floorFor_57 hl (k := 2) rfl (by rw [ex_16]; rfl) (by decide) rfl (fun ls hl => ?_)
            refine lv_goto (tgt := 5) hx hb dX1_floorFor_60 (by decide) ?_
            exact ih_d (i + 1) (by omega) _ nx_16 _ (by simp [bx_sum, fby, fok, ha_s, er_5, er_8, er_11, er_14, ex_15, ex_16, bc_9, bc_12]) ls (lv_sub hl [0, 1, 3, 4, 5] rfl)
  exact KK (n) 0 (by omega) _ rfl _ rfl ls (lv_sub hl [0, 1, 2, 3, 4] rfl)
set_option maxHeartbeats 4000000 in
set_option maxRecDepth 100000 in
theorem m_X1_topUpOn (l : Launch) {G : wy_G} {L : List Nat} {f : Nat → va_E} {ox lo : Nat} {ra ar : Nat → Nat} {n : Nat} {km mn : Int32} {wk : Nat} {po : Nat → Int32} {rr : Nat → wr_V} (hq : wx_S G L f ox lo ra ar n km mn wk po rr) (p1 p2 p3 : Int32) (e1 : p1 = earnS rr n p2 p3) : Met l yX1_topUpOn wsX1_topUpOn ({ frames := 4, cells := 0, slots := 0, locals := 89 } : Room) (va_Pc [.ref ox, .int p1, .int p2, .int p3] (wy_R G L f)) (vp_Si (fun z => z = topS rr n p2 p3)) 0 0 (fun _ => False) := by
  refine Met.ofW (cc := cX1_topUpOn) (maxL := 4) (ret := (some .int)) (by decide) rfl ?_
  intro p e s m args below meth c s₁ B hml hv
  obtain ⟨rfl, hP, hK⟩ := hv
  have hx := B.exec
  have hb := B.bytes
  have hr := B.returns
  have hts := atoms_spec (ws := wsX1_topUpOn) B.pre
  have hown : s.vm.findClass RX1 = some m.cls := findClass_of_methodNamed B.named
  have hlocks := B.notSynchronized
  obtain ⟨md, he, cap, gg, hL1, -⟩ := id hq.2.1
  have hn : n ≤ 40 := hq.2.2.2.2.1
  have hwk : wk ≤ 20 := hq.2.2.2.2.2.1
  have hl := lv_entry ([.ref ox, .int p1, .int p2, .int p3]) (n := 4) (Nat.le_of_ble_eq_true rfl)
  rw [lg_entry_eq]
  generalize (lg_sl ([.ref ox, .int p1, .int p2, .int p3]) ++ List.replicate (4 - (lg_sl ([.ref ox, .int p1, .int p2, .int p3])).length) Slot.unset).toArray = ls at hl ⊢
  have hl : lv_has ls 4 [(0, .ref ox), (1, .int p1), (2, .int p2), (3, .int p3)] := hl
  refine lv_aload_n hx hb dX1_topUpOn_0 rfl (lv_at hl 0 rfl) ?_
  refine lv_iload_n hx hb dX1_topUpOn_1 rfl (lv_at hl 2 rfl) ?_
  refine lv_iload_n hx hb dX1_topUpOn_2 rfl (lv_at hl 3 rfl) ?_
  refine vp_callSi (W.runV (As := [.int p2, .int p3]) (rest := []) ⟨hx, hb, hml, hown, hts⟩ (m_X1_floorFor l hq (p2) (p3)) (cwV 2 hts gX1_topUpOn_X1_floorFor rfl rfl rfl (by decide +kernel) ⟨Nat.le_of_ble_eq_true rfl, Nat.le_of_ble_eq_true rfl⟩) (wy_pVR hK hP hq.1 rfl) rfl rfl hl.1 rfl (lv_room (Nat.le_of_ble_eq_true rfl)) dX1_topUpOn_3 ⟨Nat.le_of_ble_eq_true rfl, Nat.le_of_ble_eq_true rfl⟩) (fun r_1 er_1 => ?_)
  refine lv_iload_n hx hb dX1_topUpOn_6 rfl (lv_at hl 1 rfl) ?_
  refine lv_isub hx hb dX1_topUpOn_7 ?_
  refine lv_topi (fun x_2 ex_2 => ?_)
  refine lv_iconst (v := 0) hx hb dX1_topUpOn_8 (by decide) ?_
  refine va_mmax hx hb (by rw [hml]; exact hl.1.symm) hown (hts (.methodLink RX1 213 Lib.Math.max.name) (by decide +kernel)) (hts (.static Lib.Math.max.name) (by decide +kernel)) (hts (.initialized "java/lang/Math") (by decide +kernel)) (hts (.code Lib.Math.max.name Lib.Math.max.code 2 (some .int)) (by decide +kernel)) (Nat.le_of_ble_eq_true rfl) (Nat.le_of_ble_eq_true rfl) (Nat.le_of_ble_eq_true rfl) (Nat.le_of_ble_eq_true rfl) dX1_topUpOn_9 ?_
  refine lv_topi (fun x_3 ex_3 => ?_)
  exact wy_iR (by simp only [er_1, ex_2, ex_3, e1]; rfl) hx hb hr hlocks dX1_topUpOn_12
set_option maxHeartbeats 4000000 in
set_option maxRecDepth 100000 in
theorem m_X1_bonusForRides (l : Launch) (p0 : Int32) (k : Nat) (hk : k < 2 ^ 31) (e0 : p0 = nI k) : Met l yX1_bonusForRides wsX1_bonusForRides ({ frames := 0, cells := 0, slots := 0, locals := 0 } : Room) (va_Pc [.int p0] (fun _ => True)) (vp_Si (fun z => z = bonN k)) 0 0 (fun _ => False) := by
  refine Met.ofW (cc := cX1_bonusForRides) (maxL := 1) (ret := (some .int)) (by decide) rfl ?_
  intro p e s m args below meth c s₁ B hml hv
  obtain ⟨rfl, -⟩ := hv
  have hx := B.exec
  have hb := B.bytes
  have hr := B.returns
  have hts := atoms_spec (ws := wsX1_bonusForRides) B.pre
  have hown : s.vm.findClass RX1 = some m.cls := findClass_of_methodNamed B.named
  have hlocks := B.notSynchronized
  have hl := lv_entry ([.int p0]) (n := 1) (Nat.le_of_ble_eq_true rfl)
  rw [lg_entry_eq]
  generalize (lg_sl ([.int p0]) ++ List.replicate (1 - (lg_sl ([.int p0])).length) Slot.unset).toArray = ls at hl ⊢
  have hl : lv_has ls 1 [(0, .int p0)] := hl
  refine lv_iload_n hx hb dX1_bonusForRides_0 rfl (lv_at hl 0 rfl) ?_
  refine lv_bipush (v := 9) hx hb dX1_bonusForRides_1 (by decide) ?_
  refine lv_icmp_lt (tgt := 10) hx hb dX1_bonusForRides_3 (by decide) (fun c_1 => ?_) (fun c_1 => ?_)
  · have nc_1 : k < 9 := (wy_lt e0 (rfl : (9 : Int32) = nI 9) (by omega) (by decide)).mp c_1
    refine lv_iload_n hx hb dX1_bonusForRides_10 rfl (lv_at hl 0 rfl) ?_
    refine lv_bipush (v := 6) hx hb dX1_bonusForRides_11 (by decide) ?_
    refine lv_icmp_lt (tgt := 20) hx hb dX1_bonusForRides_13 (by decide) (fun c_2 => ?_) (fun c_2 => ?_)
    · have nc_2 : k < 6 := (wy_lt e0 (rfl : (6 : Int32) = nI 6) (by omega) (by decide)).mp c_2
      refine lv_iload_n hx hb dX1_bonusForRides_20 rfl (lv_at hl 0 rfl) ?_
      refine lv_iconst (v := 3) hx hb dX1_bonusForRides_21 (by decide) ?_
      refine lv_icmp_lt (tgt := 31) hx hb dX1_bonusForRides_22 (by decide) (fun c_3 => ?_) (fun c_3 => ?_)
      · have nc_3 : k < 3 := (wy_lt e0 (rfl : (3 : Int32) = nI 3) (by omega) (by decide)).mp c_3
        refine lv_iconst (v := 0) hx hb dX1_bonusForRides_31 (by decide) ?_
        exact wy_iR (by unfold bonN; split <;> first | rfl | (exfalso; omega) | (split <;> first | rfl | (exfalso; omega) | (split <;> first | rfl | (exfalso; omega)))) hx hb hr hlocks dX1_bonusForRides_32
      · have nc_3 : ¬ (k < 3) := fun z => c_3 ((wy_lt e0 (rfl : (3 : Int32) = nI 3) (by omega) (by decide)).mpr z)
        refine lv_sipush (v := 1000) hx hb dX1_bonusForRides_25 (by decide) ?_
        refine lv_goto (tgt := 32) hx hb dX1_bonusForRides_28 (by decide) ?_
        exact wy_iR (by unfold bonN; split <;> first | rfl | (exfalso; omega) | (split <;> first | rfl | (exfalso; omega) | (split <;> first | rfl | (exfalso; omega)))) hx hb hr hlocks dX1_bonusForRides_32
    · have nc_2 : ¬ (k < 6) := fun z => c_2 ((wy_lt e0 (rfl : (6 : Int32) = nI 6) (by omega) (by decide)).mpr z)
      refine lv_sipush (v := 3000) hx hb dX1_bonusForRides_16 (by decide) ?_
      exact wy_iR (by unfold bonN; split <;> first | rfl | (exfalso; omega) | (split <;> first | rfl | (exfalso; omega) | (split <;> first | rfl | (exfalso; omega)))) hx hb hr hlocks dX1_bonusForRides_19
  · have nc_1 : ¬ (k < 9) := fun z => c_1 ((wy_lt e0 (rfl : (9 : Int32) = nI 9) (by omega) (by decide)).mpr z)
    refine lv_sipush (v := 6000) hx hb dX1_bonusForRides_6 (by decide) ?_
    exact wy_iR (by unfold bonN; split <;> first | rfl | (exfalso; omega) | (split <;> first | rfl | (exfalso; omega) | (split <;> first | rfl | (exfalso; omega)))) hx hb hr hlocks dX1_bonusForRides_9
set_option maxHeartbeats 4000000 in
set_option maxRecDepth 100000 in
theorem m_X1_bonusFor (l : Launch) {G : wy_G} {L : List Nat} {f : Nat → va_E} {ox lo : Nat} {ra ar : Nat → Nat} {n : Nat} {km mn : Int32} {wk : Nat} {po : Nat → Int32} {rr : Nat → wr_V} (hq : wx_S G L f ox lo ra ar n km mn wk po rr) (p1 p2 : Int32) : Met l yX1_bonusFor wsX1_bonusFor ({ frames := 3, cells := 0, slots := 0, locals := 64 } : Room) (va_Pc [.ref ox, .int p1, .int p2] (wy_R G L f)) (vp_Si (fun z => z = bonS rr n p1 p2)) 0 0 (fun _ => False) := by
  refine Met.ofW (cc := cX1_bonusFor) (maxL := 6) (ret := (some .int)) (by decide) rfl ?_
  intro p e s m args below meth c s₁ B hml hv
  obtain ⟨rfl, hP, hK⟩ := hv
  have hx := B.exec
  have hb := B.bytes
  have hr := B.returns
  have hts := atoms_spec (ws := wsX1_bonusFor) B.pre
  have hown : s.vm.findClass RX1 = some m.cls := findClass_of_methodNamed B.named
  have hlocks := B.notSynchronized
  have hinX1 : ∀ w ∈ wsX10, w ∈ wsX1_bonusFor := by decide +kernel
  obtain ⟨md, he, cap, gg, hL1, -⟩ := id hq.2.1
  have hn : n ≤ 40 := hq.2.2.2.2.1
  have hwk : wk ≤ 20 := hq.2.2.2.2.2.1
  have hl := lv_entry ([.ref ox, .int p1, .int p2]) (n := 6) (Nat.le_of_ble_eq_true rfl)
  rw [lg_entry_eq]
  generalize (lg_sl ([.ref ox, .int p1, .int p2]) ++ List.replicate (6 - (lg_sl ([.ref ox, .int p1, .int p2])).length) Slot.unset).toArray = ls at hl ⊢
  have hl : lv_has ls 6 [(0, .ref ox), (1, .int p1), (2, .int p2)] := hl
  refine lv_iconst (v := 0) hx hb dX1_bonusFor_0 (by decide) ?_
  refine lv_istore_n (lv' := [(3, .int 0), (0, .ref ox), (1, .int p1), (2, .int p2)]) hx hb dX1_bonusFor_1 rfl hl (by decide) rfl (fun ls hl => ?_)
  refine lv_iconst (v := 0) hx hb dX1_bonusFor_2 (by decide) ?_
  refine lv_istore (lv' := [(4, .int 0), (3, .int 0), (0, .ref ox), (1, .int p1), (2, .int p2)]) hx hb dX1_bonusFor_3 hl (by decide) rfl (fun ls hl => ?_)
  have KK : ∀ (d i : Nat), i + d = n → ∀ (xi_i : Int32), xi_i = nI (i) → ∀ (a_s : Int32), a_s = nI (cb (fok rr p1 p2) i) → ∀ ls : Array Slot, lv_has ls 6 [(4, .int xi_i), (3, .int a_s), (0, .ref ox), (1, .int p1), (2, .int p2)] → W p l e (headSpec wsX1_bonusFor ({ frames := 3, cells := 0, slots := 0, locals := 64 } : Room)).room s m ([.ref ox, .int p1, .int p2] : List Value).toArray below meth c s.heap [] 0 0 (MQ below (vp_Si (fun z => z = bonS rr n p1 p2)) ([.ref ox, .int p1, .int p2] : List Value).toArray s 0 0 (fun _ => False)) (F0 m 5 ls []) := by
    intro d
    induction d with
    | zero =>
      intro i hd_i xi_i ei_i a_s ha_s ls hl
      refine lv_iload hx hb dX1_bonusFor_5 (lv_at hl 0 rfl) ?_
      refine lv_aload_n hx hb dX1_bonusFor_7 rfl (lv_at hl 2 rfl) ?_
      refine wy_get (ci := 2) (v := .ref lo) (C := RX1) (T := TX1) (N := 5) hx hb hts hinX1 hown hK hP hq.1 rfl 0 (by decide) (hts (.fieldLink RX1 10 "Wheelpay" "rides" "Ljava/util/ArrayList;") (by decide +kernel)) (fun _ h9 => h9) rfl dX1_bonusFor_8 ?_
      refine vp_callSi (W.runV (As := []) (rest := [.int xi_i]) ⟨hx, hb, hml, hown, hts⟩ (m_Jx4a65c_size_8abf5 l hq.2.1) (cwV 0 hts gX1_bonusFor_Jx4a65c_size_8abf5 rfl rfl rfl (by decide +kernel) ⟨Nat.le_of_ble_eq_true rfl, Nat.le_of_ble_eq_true rfl⟩) (wy_pVR hK hP hL1 rfl) rfl rfl hl.1 rfl (lv_room (Nat.le_of_ble_eq_true rfl)) dX1_bonusFor_11 ⟨Nat.le_of_ble_eq_true rfl, Nat.le_of_ble_eq_true rfl⟩) (fun r_1 er_1 => ?_)
      refine lv_icmp_ge (tgt := 58) hx hb dX1_bonusFor_14 (by decide) (fun c_2 => ?_) (fun c_2 => ?_)
      · have nc_2 : n ≤ i := (wy_ge ei_i er_1 (by omega) (by omega)).mp c_2
        obtain rfl : n = i := by omega
        refine lv_iload_n hx hb dX1_bonusFor_58 rfl (lv_at hl 1 rfl) ?_
        refine vp_callSi (W.runS (As := [.int a_s]) (rest := []) ⟨hx, hb, hml, hown, hts⟩ (m_X1_bonusForRides l (a_s) (cb (fok rr p1 p2) n) (Nat.lt_of_le_of_lt (cb_le _ _) (by omega)) ha_s) (va_cwS 1 hts gX1_bonusFor_X1_bonusForRides rfl rfl rfl (by decide +kernel) ⟨Nat.le_of_ble_eq_true rfl, Nat.le_of_ble_eq_true rfl⟩) (wy_pSN) rfl rfl hl.1 rfl (lv_room (Nat.le_of_ble_eq_true rfl)) dX1_bonusFor_59 ⟨Nat.le_of_ble_eq_true rfl, Nat.le_of_ble_eq_true rfl⟩) (fun r_3 er_3 => ?_)
        exact wy_iR (by simp only [ha_s, er_1, er_3]; rfl) hx hb hr hlocks dX1_bonusFor_62
      · have nc_2 : ¬ (n ≤ i) := fun z => c_2 ((wy_ge ei_i er_1 (by omega) (by omega)).mpr z)
        exact absurd nc_2 (by omega)
    | succ d ih_d =>
      intro i hd_i xi_i ei_i a_s ha_s ls hl
      refine lv_iload hx hb dX1_bonusFor_5 (lv_at hl 0 rfl) ?_
      refine lv_aload_n hx hb dX1_bonusFor_7 rfl (lv_at hl 2 rfl) ?_
      refine wy_get (ci := 2) (v := .ref lo) (C := RX1) (T := TX1) (N := 5) hx hb hts hinX1 hown hK hP hq.1 rfl 0 (by decide) (hts (.fieldLink RX1 10 "Wheelpay" "rides" "Ljava/util/ArrayList;") (by decide +kernel)) (fun _ h9 => h9) rfl dX1_bonusFor_8 ?_
      refine vp_callSi (W.runV (As := []) (rest := [.int xi_i]) ⟨hx, hb, hml, hown, hts⟩ (m_Jx4a65c_size_8abf5 l hq.2.1) (cwV 0 hts gX1_bonusFor_Jx4a65c_size_8abf5 rfl rfl rfl (by decide +kernel) ⟨Nat.le_of_ble_eq_true rfl, Nat.le_of_ble_eq_true rfl⟩) (wy_pVR hK hP hL1 rfl) rfl rfl hl.1 rfl (lv_room (Nat.le_of_ble_eq_true rfl)) dX1_bonusFor_11 ⟨Nat.le_of_ble_eq_true rfl, Nat.le_of_ble_eq_true rfl⟩) (fun r_4 er_4 => ?_)
      refine lv_icmp_ge (tgt := 58) hx hb dX1_bonusFor_14 (by decide) (fun c_5 => ?_) (fun c_5 => ?_)
      · have nc_5 : n ≤ i := (wy_ge ei_i er_4 (by omega) (by omega)).mp c_5
        exact absurd nc_5 (by omega)
      · have nc_5 : ¬ (n ≤ i) := fun z => c_5 ((wy_ge ei_i er_4 (by omega) (by omega)).mpr z)
        refine lv_aload_n hx hb dX1_bonusFor_17 rfl (lv_at hl 2 rfl) ?_
        refine wy_get (ci := 2) (v := .ref lo) (C := RX1) (T := TX1) (N := 5) hx hb hts hinX1 hown hK hP hq.1 rfl 0 (by decide) (hts (.fieldLink RX1 10 "Wheelpay" "rides" "Ljava/util/ArrayList;") (by decide +kernel)) (fun _ h9 => h9) rfl dX1_bonusFor_18 ?_
        refine lv_iload hx hb dX1_bonusFor_21 (lv_at hl 0 rfl) ?_
        refine va_csr (W.runV (As := [.int xi_i]) (rest := []) ⟨hx, hb, hml, hown, hts⟩ (m_Jx4a65c_get_915e3 l hq.2.1 (xi_i) (i) (by omega) ei_i) (cwV 1 hts gX1_bonusFor_Jx4a65c_get_915e3 rfl rfl rfl (by decide +kernel) ⟨Nat.le_of_ble_eq_true rfl, Nat.le_of_ble_eq_true rfl⟩) (wy_pVR hK hP hL1 rfl) rfl rfl hl.1 rfl (lv_room (Nat.le_of_ble_eq_true rfl)) dX1_bonusFor_23 ⟨Nat.le_of_ble_eq_true rfl, Nat.le_of_ble_eq_true rfl⟩) (fun r_6 er_6 => ?_)
        subst er_6
        refine wy_cast (ci := 1) hx hb hown (hts (.classLink RX1 55 "Wheelpay$Ride") (by decide +kernel)) hK hP (hq.2.2.2.1 (i) (by omega)).1 rfl dX1_bonusFor_26 ?_
        refine lv_astore (lv' := [(5, .ref (ra (i))), (4, .int xi_i), (3, .int a_s), (0, .ref ox), (1, .int p1), (2, .int p2)]) hx hb dX1_bonusFor_29 hl (by decide) rfl (fun ls hl => ?_)
        refine lv_aload hx hb dX1_bonusFor_31 (lv_at hl 0 rfl) ?_
        refine lv_iload_n hx hb dX1_bonusFor_33 rfl (lv_at hl 4 rfl) ?_
        refine lv_iload_n hx hb dX1_bonusFor_34 rfl (lv_at hl 5 rfl) ?_
        refine vp_callSi (W.runV (As := [.int p1, .int p2]) (rest := []) ⟨hx, hb, hml, hown, hts⟩ (m_X0_isFinishedBy l (hq.2.2.2.1 (i) (by omega)) (p1) (p2)) (cwV 2 hts gX1_bonusFor_X0_isFinishedBy rfl rfl rfl (by decide +kernel) ⟨Nat.le_of_ble_eq_true rfl, Nat.le_of_ble_eq_true rfl⟩) (wy_pVR hK hP (hq.2.2.2.1 (i) (by omega)).1 rfl) rfl rfl hl.1 rfl (lv_room (Nat.le_of_ble_eq_true rfl)) dX1_bonusFor_35 ⟨Nat.le_of_ble_eq_true rfl, Nat.le_of_ble_eq_true rfl⟩) (fun r_7 er_7 => ?_)
        refine lv_if_eq (tgt := 52) hx hb dX1_bonusFor_38 (by decide) (fun c_8 => ?_) (fun c_8 => ?_)
        · have bc_8 : (fbyR (rr (i)) p1 p2) = false := bI_0 (er_7.symm.trans c_8)
          obtain ⟨x_9, ex_9⟩ : ∃ y : Int32, y = xi_i + 1 := ⟨_, rfl⟩
          have nx_9 : x_9 = nI (i + 1) := by rw [ex_9, ei_i, nI_1]
          refine lv_iinc (v := x_9) (lv' := [(4, .int x_9), (5, .ref (ra (i))), (3, .int a_s), (0, .ref ox), (1, .int p1), (2, .int p2)]) hx hb dX1_bonusFor_52 hl (k := 1) rfl (by rw [ex_9]; rfl) (by decide) rfl (fun ls hl => ?_)
          refine lv_goto (tgt := 5) hx hb dX1_bonusFor_55 (by decide) ?_
          exact ih_d (i + 1) (by omega) _ nx_9 _ (by rw [show cb (fok rr p1 p2) (i + 1) = cb (fok rr p1 p2) i by simp [cb, fok, bc_8]]; exact ha_s) ls (lv_sub hl [0, 2, 3, 4, 5] rfl)
        · have bc_8 : (fbyR (rr (i)) p1 p2) = true := bI_1 (fun z => c_8 (er_7.trans z))
          refine lv_aload hx hb dX1_bonusFor_41 (lv_at hl 0 rfl) ?_
          refine vp_callSi (W.runV (As := []) (rest := []) ⟨hx, hb, hml, hown, hts⟩ (m_X0_countsAsVoid l (hq.2.2.2.1 (i) (by omega))) (cwV 0 hts gX1_bonusFor_X0_countsAsVoid rfl rfl rfl (by decide +kernel) ⟨Nat.le_of_ble_eq_true rfl, Nat.le_of_ble_eq_true rfl⟩) (wy_pVR hK hP (hq.2.2.2.1 (i) (by omega)).1 rfl) rfl rfl hl.1 rfl (lv_room (Nat.le_of_ble_eq_true rfl)) dX1_bonusFor_43 ⟨Nat.le_of_ble_eq_true rfl, Nat.le_of_ble_eq_true rfl⟩) (fun r_10 er_10 => ?_)
          refine lv_if_ne (tgt := 52) hx hb dX1_bonusFor_46 (by decide) (fun c_11 => ?_) (fun c_11 => ?_)
          · have bc_11 : (voidR (rr (i))) = true := bI_1 (fun z => c_11 (er_10.trans z))
            obtain ⟨x_12, ex_12⟩ : ∃ y : Int32, y = xi_i + 1 := ⟨_, rfl⟩
            have nx_12 : x_12 = nI (i + 1) := by rw [ex_12, ei_i, nI_1]
            refine lv_iinc (v := x_12) (lv' := [(4, .int x_12), (5, .ref (ra (i))), (3, .int a_s), (0, .ref ox), (1, .int p1), (2, .int p2)]) hx hb dX1_bonusFor_52 hl (k := 1) rfl (by rw [ex_12]; rfl) (by decide) rfl (fun ls hl => ?_)
            refine lv_goto (tgt := 5) hx hb dX1_bonusFor_55 (by decide) ?_
            exact ih_d (i + 1) (by omega) _ nx_12 _ (by rw [show cb (fok rr p1 p2) (i + 1) = cb (fok rr p1 p2) i by simp [cb, fok, bc_8, bc_11]]; exact ha_s) ls (lv_sub hl [0, 2, 3, 4, 5] rfl)
          · have bc_11 : (voidR (rr (i))) = false := bI_0 (er_10.symm.trans c_11)
            obtain ⟨x_13, ex_13⟩ : ∃ y : Int32, y = a_s + 1 := ⟨_, rfl⟩
            have nx_13 : x_13 = nI (cb (fok rr p1 p2) i + 1) := by rw [ex_13, ha_s, nI_1]
            refine lv_iinc (v := x_13) (lv' := [(3, .int x_13), (5, .ref (ra (i))), (4, .int xi_i), (0, .ref ox), (1, .int p1), (2, .int p2)]) hx hb dX1_bonusFor_49 hl (k := 2) rfl (by rw [ex_13]; rfl) (by decide) rfl (fun ls hl => ?_)
            obtain ⟨x_14, ex_14⟩ : ∃ y : Int32, y = xi_i + 1 := ⟨_, rfl⟩
            have nx_14 : x_14 = nI (i + 1) := by rw [ex_14, ei_i, nI_1]
            refine lv_iinc (v := x_14) (lv' := [(4, .int x_14), (3, .int x_13), (5, .ref (ra (i))), (0, .ref ox), (1, .int p1), (2, .int p2)]) hx hb dX1_bonusFor_52 hl (k := 2) rfl (by rw [ex_14]; rfl) (by decide) rfl (fun ls hl => ?_)
            refine lv_goto (tgt := 5) hx hb dX1_bonusFor_55 (by decide) ?_
            exact ih_d (i + 1) (by omega) _ nx_14 _ (by rw [show cb (fok rr p1 p2) (i + 1) = cb (fok rr p1 p2) i + 1 by simp [cb, fok, bc_8, bc_11]]; exact nx_13) ls (lv_sub hl [0, 1, 3, 4, 5] rfl)
  exact KK (n) 0 (by omega) _ rfl _ rfl ls (lv_sub hl [0, 1, 2, 3, 4] rfl)
set_option maxHeartbeats 4000000 in
set_option maxRecDepth 100000 in
theorem m_X1_payFor (l : Launch) {G : wy_G} {L : List Nat} {f : Nat → va_E} {ox lo : Nat} {ra ar : Nat → Nat} {n : Nat} {km mn : Int32} {wk : Nat} {po : Nat → Int32} {rr : Nat → wr_V} (hq : wx_S G L f ox lo ra ar n km mn wk po rr) (p1 p2 : Int32) : Met l yX1_payFor wsX1_payFor ({ frames := 5, cells := 0, slots := 0, locals := 112 } : Room) (va_Pc [.ref ox, .int p1, .int p2] (wy_R G L f)) (vp_Si (fun z => z = payS rr n p1 p2)) 0 0 (fun _ => False) := by
  refine Met.ofW (cc := cX1_payFor) (maxL := 4) (ret := (some .int)) (by decide) rfl ?_
  intro p e s m args below meth c s₁ B hml hv
  obtain ⟨rfl, hP, hK⟩ := hv
  have hx := B.exec
  have hb := B.bytes
  have hr := B.returns
  have hts := atoms_spec (ws := wsX1_payFor) B.pre
  have hown : s.vm.findClass RX1 = some m.cls := findClass_of_methodNamed B.named
  have hlocks := B.notSynchronized
  obtain ⟨md, he, cap, gg, hL1, -⟩ := id hq.2.1
  have hn : n ≤ 40 := hq.2.2.2.2.1
  have hwk : wk ≤ 20 := hq.2.2.2.2.2.1
  have hl := lv_entry ([.ref ox, .int p1, .int p2]) (n := 4) (Nat.le_of_ble_eq_true rfl)
  rw [lg_entry_eq]
  generalize (lg_sl ([.ref ox, .int p1, .int p2]) ++ List.replicate (4 - (lg_sl ([.ref ox, .int p1, .int p2])).length) Slot.unset).toArray = ls at hl ⊢
  have hl : lv_has ls 4 [(0, .ref ox), (1, .int p1), (2, .int p2)] := hl
  refine lv_aload_n hx hb dX1_payFor_0 rfl (lv_at hl 0 rfl) ?_
  refine lv_iload_n hx hb dX1_payFor_1 rfl (lv_at hl 1 rfl) ?_
  refine lv_iload_n hx hb dX1_payFor_2 rfl (lv_at hl 2 rfl) ?_
  refine vp_callSi (W.runV (As := [.int p1, .int p2]) (rest := []) ⟨hx, hb, hml, hown, hts⟩ (m_X1_earningsFor l hq (p1) (p2)) (cwV 2 hts gX1_payFor_X1_earningsFor rfl rfl rfl (by decide +kernel) ⟨Nat.le_of_ble_eq_true rfl, Nat.le_of_ble_eq_true rfl⟩) (wy_pVR hK hP hq.1 rfl) rfl rfl hl.1 rfl (lv_room (Nat.le_of_ble_eq_true rfl)) dX1_payFor_3 ⟨Nat.le_of_ble_eq_true rfl, Nat.le_of_ble_eq_true rfl⟩) (fun r_1 er_1 => ?_)
  refine lv_istore_n (lv' := [(3, .int r_1), (0, .ref ox), (1, .int p1), (2, .int p2)]) hx hb dX1_payFor_6 rfl hl (by decide) rfl (fun ls hl => ?_)
  refine lv_iload_n hx hb dX1_payFor_7 rfl (lv_at hl 0 rfl) ?_
  refine lv_aload_n hx hb dX1_payFor_8 rfl (lv_at hl 1 rfl) ?_
  refine lv_iload_n hx hb dX1_payFor_9 rfl (lv_at hl 0 rfl) ?_
  refine lv_iload_n hx hb dX1_payFor_10 rfl (lv_at hl 2 rfl) ?_
  refine lv_iload_n hx hb dX1_payFor_11 rfl (lv_at hl 3 rfl) ?_
  refine vp_callSi (W.runV (As := [.int r_1, .int p1, .int p2]) (rest := [.int r_1]) ⟨hx, hb, hml, hown, hts⟩ (m_X1_topUpOn l hq (r_1) (p1) (p2) er_1) (cwV 3 hts gX1_payFor_X1_topUpOn rfl rfl rfl (by decide +kernel) ⟨Nat.le_of_ble_eq_true rfl, Nat.le_of_ble_eq_true rfl⟩) (wy_pVR hK hP hq.1 rfl) rfl rfl hl.1 rfl (lv_room (Nat.le_of_ble_eq_true rfl)) dX1_payFor_12 ⟨Nat.le_of_ble_eq_true rfl, Nat.le_of_ble_eq_true rfl⟩) (fun r_2 er_2 => ?_)
  refine lv_iadd hx hb dX1_payFor_15 ?_
  refine lv_topi (fun x_3 ex_3 => ?_)
  refine lv_aload_n hx hb dX1_payFor_16 rfl (lv_at hl 1 rfl) ?_
  refine lv_iload_n hx hb dX1_payFor_17 rfl (lv_at hl 2 rfl) ?_
  refine lv_iload_n hx hb dX1_payFor_18 rfl (lv_at hl 3 rfl) ?_
  refine vp_callSi (W.runV (As := [.int p1, .int p2]) (rest := [.int x_3]) ⟨hx, hb, hml, hown, hts⟩ (m_X1_bonusFor l hq (p1) (p2)) (cwV 2 hts gX1_payFor_X1_bonusFor rfl rfl rfl (by decide +kernel) ⟨Nat.le_of_ble_eq_true rfl, Nat.le_of_ble_eq_true rfl⟩) (wy_pVR hK hP hq.1 rfl) rfl rfl hl.1 rfl (lv_room (Nat.le_of_ble_eq_true rfl)) dX1_payFor_19 ⟨Nat.le_of_ble_eq_true rfl, Nat.le_of_ble_eq_true rfl⟩) (fun r_4 er_4 => ?_)
  refine lv_iadd hx hb dX1_payFor_22 ?_
  refine lv_topi (fun x_5 ex_5 => ?_)
  exact wy_iR (by simp only [er_1, er_2, ex_3, er_4, ex_5]; rfl) hx hb hr hlocks dX1_payFor_23
set_option maxHeartbeats 4000000 in
set_option maxRecDepth 100000 in
theorem m_X1_payBefore (l : Launch) {G : wy_G} {L : List Nat} {f : Nat → va_E} {ox lo : Nat} {ra ar : Nat → Nat} {n : Nat} {km mn : Int32} {wk : Nat} {po : Nat → Int32} {rr : Nat → wr_V} (hq : wx_S G L f ox lo ra ar n km mn wk po rr) (p1 p2 : Int32) (k : Nat) (hk : k ≤ 30) (e2 : p2 = nI k) : Met l yX1_payBefore wsX1_payBefore ({ frames := 6, cells := 0, slots := 0, locals := 135 } : Room) (va_Pc [.ref ox, .int p1, .int p2] (wy_R G L f)) (vp_Si (fun z => z = payB rr n p1 k)) 0 0 (fun _ => False) := by
  refine Met.ofW (cc := cX1_payBefore) (maxL := 5) (ret := (some .int)) (by decide) rfl ?_
  intro p e s m args below meth c s₁ B hml hv
  obtain ⟨rfl, hP, hK⟩ := hv
  have hx := B.exec
  have hb := B.bytes
  have hr := B.returns
  have hts := atoms_spec (ws := wsX1_payBefore) B.pre
  have hown : s.vm.findClass RX1 = some m.cls := findClass_of_methodNamed B.named
  have hlocks := B.notSynchronized
  obtain ⟨md, he, cap, gg, hL1, -⟩ := id hq.2.1
  have hn : n ≤ 40 := hq.2.2.2.2.1
  have hwk : wk ≤ 20 := hq.2.2.2.2.2.1
  have hl := lv_entry ([.ref ox, .int p1, .int p2]) (n := 5) (Nat.le_of_ble_eq_true rfl)
  rw [lg_entry_eq]
  generalize (lg_sl ([.ref ox, .int p1, .int p2]) ++ List.replicate (5 - (lg_sl ([.ref ox, .int p1, .int p2])).length) Slot.unset).toArray = ls at hl ⊢
  have hl : lv_has ls 5 [(0, .ref ox), (1, .int p1), (2, .int p2)] := hl
  refine lv_iconst (v := 0) hx hb dX1_payBefore_0 (by decide) ?_
  refine lv_istore_n (lv' := [(3, .int 0), (0, .ref ox), (1, .int p1), (2, .int p2)]) hx hb dX1_payBefore_1 rfl hl (by decide) rfl (fun ls hl => ?_)
  refine lv_iconst (v := 0) hx hb dX1_payBefore_2 (by decide) ?_
  refine lv_istore (lv' := [(4, .int 0), (3, .int 0), (0, .ref ox), (1, .int p1), (2, .int p2)]) hx hb dX1_payBefore_3 hl (by decide) rfl (fun ls hl => ?_)
  have KK : ∀ (d i : Nat), i + d = k → ∀ (xi_i : Int32), xi_i = nI (i) → ∀ (a_s : Int32), a_s = payB rr n p1 i → ∀ ls : Array Slot, lv_has ls 5 [(4, .int xi_i), (3, .int a_s), (0, .ref ox), (1, .int p1), (2, .int p2)] → W p l e (headSpec wsX1_payBefore ({ frames := 6, cells := 0, slots := 0, locals := 135 } : Room)).room s m ([.ref ox, .int p1, .int p2] : List Value).toArray below meth c s.heap [] 0 0 (MQ below (vp_Si (fun z => z = payB rr n p1 k)) ([.ref ox, .int p1, .int p2] : List Value).toArray s 0 0 (fun _ => False)) (F0 m 5 ls []) := by
    intro d
    induction d with
    | zero =>
      intro i hd_i xi_i ei_i a_s ha_s ls hl
      refine lv_iload hx hb dX1_payBefore_5 (lv_at hl 0 rfl) ?_
      refine lv_iload_n hx hb dX1_payBefore_7 rfl (lv_at hl 4 rfl) ?_
      refine lv_icmp_ge (tgt := 27) hx hb dX1_payBefore_8 (by decide) (fun c_1 => ?_) (fun c_1 => ?_)
      · have nc_1 : k ≤ i := (wy_ge ei_i e2 (by omega) (by omega)).mp c_1
        obtain rfl : k = i := by omega
        refine lv_iload_n hx hb dX1_payBefore_27 rfl (lv_at hl 1 rfl) ?_
        exact wy_iR ha_s hx hb hr hlocks dX1_payBefore_28
      · have nc_1 : ¬ (k ≤ i) := fun z => c_1 ((wy_ge ei_i e2 (by omega) (by omega)).mpr z)
        exact absurd nc_1 (by omega)
    | succ d ih_d =>
      intro i hd_i xi_i ei_i a_s ha_s ls hl
      refine lv_iload hx hb dX1_payBefore_5 (lv_at hl 0 rfl) ?_
      refine lv_iload_n hx hb dX1_payBefore_7 rfl (lv_at hl 4 rfl) ?_
      refine lv_icmp_ge (tgt := 27) hx hb dX1_payBefore_8 (by decide) (fun c_2 => ?_) (fun c_2 => ?_)
      · have nc_2 : k ≤ i := (wy_ge ei_i e2 (by omega) (by omega)).mp c_2
        exact absurd nc_2 (by omega)
      · have nc_2 : ¬ (k ≤ i) := fun z => c_2 ((wy_ge ei_i e2 (by omega) (by omega)).mpr z)
        refine lv_iload_n hx hb dX1_payBefore_11 rfl (lv_at hl 1 rfl) ?_
        refine lv_aload_n hx hb dX1_payBefore_12 rfl (lv_at hl 2 rfl) ?_
        refine lv_iload_n hx hb dX1_payBefore_13 rfl (lv_at hl 3 rfl) ?_
        refine lv_iload hx hb dX1_payBefore_14 (lv_at hl 0 rfl) ?_
        refine vp_callSi (W.runV (As := [.int p1, .int xi_i]) (rest := [.int a_s]) ⟨hx, hb, hml, hown, hts⟩ (m_X1_payFor l hq (p1) (xi_i)) (cwV 2 hts gX1_payBefore_X1_payFor rfl rfl rfl (by decide +kernel) ⟨Nat.le_of_ble_eq_true rfl, Nat.le_of_ble_eq_true rfl⟩) (wy_pVR hK hP hq.1 rfl) rfl rfl hl.1 rfl (lv_room (Nat.le_of_ble_eq_true rfl)) dX1_payBefore_16 ⟨Nat.le_of_ble_eq_true rfl, Nat.le_of_ble_eq_true rfl⟩) (fun r_3 er_3 => ?_)
        refine lv_iadd hx hb dX1_payBefore_19 ?_
        refine lv_topi (fun x_4 ex_4 => ?_)
        refine lv_istore_n (lv' := [(3, .int x_4), (4, .int xi_i), (0, .ref ox), (1, .int p1), (2, .int p2)]) hx hb dX1_payBefore_20 rfl hl (by decide) rfl (fun ls hl => ?_)
        obtain ⟨x_5, ex_5⟩ : ∃ y : Int32, y = xi_i + 1 := ⟨_, rfl⟩
        have nx_5 : x_5 = nI (i + 1) := by rw [ex_5, ei_i, nI_1]
        refine lv_iinc (v := x_5) (lv' := [(4, .int x_5), (3, .int x_4), (0, .ref ox), (1, .int p1), (2, .int p2)]) hx hb dX1_payBefore_21 hl (k := 1) rfl (by rw [ex_5]; rfl) (by decide) rfl (fun ls hl => ?_)
        refine lv_goto (tgt := 5) hx hb dX1_payBefore_24 (by decide) ?_
        exact ih_d (i + 1) (by omega) _ nx_5 _ (by simp only [ha_s, er_3, ex_4, ex_5, ei_i]; rfl) ls (lv_sub hl [0, 1, 2, 3, 4] rfl)
  exact KK (k) 0 (by omega) _ rfl _ rfl ls (lv_sub hl [0, 1, 2, 3, 4] rfl)
set_option maxHeartbeats 4000000 in
set_option maxRecDepth 100000 in
theorem m_X1_dueTo (l : Launch) {G : wy_G} {L : List Nat} {f : Nat → va_E} {ox lo : Nat} {ra ar : Nat → Nat} {n : Nat} {km mn : Int32} {wk : Nat} {po : Nat → Int32} {rr : Nat → wr_V} (hq : wx_S G L f ox lo ra ar n km mn wk po rr) (p1 : Int32) (k : Nat) (hk : k < 5) (e1 : p1 = nI k) : Met l yX1_dueTo wsX1_dueTo ({ frames := 7, cells := 0, slots := 0, locals := 159 } : Room) (va_Pc [.ref ox, .int p1] (wy_R G L f)) (vp_Si (fun z => z = dueS rr n po wk k)) 0 0 (fun _ => False) := by
  refine Met.ofW (cc := cX1_dueTo) (maxL := 2) (ret := (some .int)) (by decide) rfl ?_
  intro p e s m args below meth c s₁ B hml hv
  obtain ⟨rfl, hP, hK⟩ := hv
  have hx := B.exec
  have hb := B.bytes
  have hr := B.returns
  have hts := atoms_spec (ws := wsX1_dueTo) B.pre
  have hown : s.vm.findClass RX1 = some m.cls := findClass_of_methodNamed B.named
  have hlocks := B.notSynchronized
  have hinX1 : ∀ w ∈ wsX10, w ∈ wsX1_dueTo := by decide +kernel
  obtain ⟨md, he, cap, gg, hL1, -⟩ := id hq.2.1
  have hn : n ≤ 40 := hq.2.2.2.2.1
  have hwk : wk ≤ 20 := hq.2.2.2.2.2.1
  have hl := lv_entry ([.ref ox, .int p1]) (n := 2) (Nat.le_of_ble_eq_true rfl)
  rw [lg_entry_eq]
  generalize (lg_sl ([.ref ox, .int p1]) ++ List.replicate (2 - (lg_sl ([.ref ox, .int p1])).length) Slot.unset).toArray = ls at hl ⊢
  have hl : lv_has ls 2 [(0, .ref ox), (1, .int p1)] := hl
  refine lv_aload_n hx hb dX1_dueTo_0 rfl (lv_at hl 0 rfl) ?_
  refine lv_iload_n hx hb dX1_dueTo_1 rfl (lv_at hl 1 rfl) ?_
  refine lv_aload_n hx hb dX1_dueTo_2 rfl (lv_at hl 0 rfl) ?_
  refine wy_get (ci := 2) (v := .int (nI wk)) (C := RX1) (T := TX1) (N := 5) hx hb hts hinX1 hown hK hP hq.1 rfl 4 (by decide) (hts (.fieldLink RX1 27 "Wheelpay" "presentWeek" "I") (by decide +kernel)) (fun _ h9 => h9) rfl dX1_dueTo_3 ?_
  refine vp_callSi (W.runV (As := [.int p1, .int (nI wk)]) (rest := []) ⟨hx, hb, hml, hown, hts⟩ (m_X1_payBefore l hq (p1) (nI wk) (wk) (by omega) rfl) (cwV 2 hts gX1_dueTo_X1_payBefore rfl rfl rfl (by decide +kernel) ⟨Nat.le_of_ble_eq_true rfl, Nat.le_of_ble_eq_true rfl⟩) (wy_pVR hK hP hq.1 rfl) rfl rfl hl.1 rfl (lv_room (Nat.le_of_ble_eq_true rfl)) dX1_dueTo_6 ⟨Nat.le_of_ble_eq_true rfl, Nat.le_of_ble_eq_true rfl⟩) (fun r_1 er_1 => ?_)
  refine lv_aload_n hx hb dX1_dueTo_9 rfl (lv_at hl 0 rfl) ?_
  refine wy_get (ci := 2) (v := .ref (ar 0)) (C := RX1) (T := TX1) (N := 5) hx hb hts hinX1 hown hK hP hq.1 rfl 1 (by decide) (hts (.fieldLink RX1 16 "Wheelpay" "paidOut" "[I") (by decide +kernel)) (fun _ h9 => h9) rfl dX1_dueTo_10 ?_
  refine lv_iload_n hx hb dX1_dueTo_13 rfl (lv_at hl 1 rfl) ?_
  refine wy_iald hx hb hK hP hq.2.2.1 (k) e1 (by omega) (by omega) dX1_dueTo_14 ?_
  refine lv_isub hx hb dX1_dueTo_15 ?_
  refine lv_topi (fun x_2 ex_2 => ?_)
  exact wy_iR (by simp only [er_1, ex_2, dueS, e1]) hx hb hr hlocks dX1_dueTo_16
set_option maxHeartbeats 4000000 in
set_option maxRecDepth 100000 in
theorem m_X1_openDisputes (l : Launch) {G : wy_G} {L : List Nat} {f : Nat → va_E} {ox lo : Nat} {ra ar : Nat → Nat} {n : Nat} {km mn : Int32} {wk : Nat} {po : Nat → Int32} {rr : Nat → wr_V} (hq : wx_S G L f ox lo ra ar n km mn wk po rr) : Met l yX1_openDisputes wsX1_openDisputes ({ frames := 3, cells := 0, slots := 0, locals := 64 } : Room) (va_Pc [.ref ox] (wy_R G L f)) (vp_Si (fun z => z = opdS rr n)) 0 0 (fun _ => False) := by
  refine Met.ofW (cc := cX1_openDisputes) (maxL := 3) (ret := (some .int)) (by decide) rfl ?_
  intro p e s m args below meth c s₁ B hml hv
  obtain ⟨rfl, hP, hK⟩ := hv
  have hx := B.exec
  have hb := B.bytes
  have hr := B.returns
  have hts := atoms_spec (ws := wsX1_openDisputes) B.pre
  have hown : s.vm.findClass RX1 = some m.cls := findClass_of_methodNamed B.named
  have hlocks := B.notSynchronized
  have hinX1 : ∀ w ∈ wsX10, w ∈ wsX1_openDisputes := by decide +kernel
  obtain ⟨md, he, cap, gg, hL1, -⟩ := id hq.2.1
  have hn : n ≤ 40 := hq.2.2.2.2.1
  have hwk : wk ≤ 20 := hq.2.2.2.2.2.1
  have hl := lv_entry ([.ref ox]) (n := 3) (Nat.le_of_ble_eq_true rfl)
  rw [lg_entry_eq]
  generalize (lg_sl ([.ref ox]) ++ List.replicate (3 - (lg_sl ([.ref ox])).length) Slot.unset).toArray = ls at hl ⊢
  have hl : lv_has ls 3 [(0, .ref ox)] := hl
  refine lv_iconst (v := 0) hx hb dX1_openDisputes_0 (by decide) ?_
  refine lv_istore_n (lv' := [(1, .int 0), (0, .ref ox)]) hx hb dX1_openDisputes_1 rfl hl (by decide) rfl (fun ls hl => ?_)
  refine lv_iconst (v := 0) hx hb dX1_openDisputes_2 (by decide) ?_
  refine lv_istore_n (lv' := [(2, .int 0), (1, .int 0), (0, .ref ox)]) hx hb dX1_openDisputes_3 rfl hl (by decide) rfl (fun ls hl => ?_)
  have KK : ∀ (d i : Nat), i + d = n → ∀ (xi_i : Int32), xi_i = nI (i) → ∀ (a_s : Int32), a_s = bx_sum (fun k => nI (cb (fun r => rdp (rr k) r && !rse (rr k) r) 10)) i → ∀ ls : Array Slot, lv_has ls 3 [(2, .int xi_i), (1, .int a_s), (0, .ref ox)] → W p l e (headSpec wsX1_openDisputes ({ frames := 3, cells := 0, slots := 0, locals := 64 } : Room)).room s m ([.ref ox] : List Value).toArray below meth c s.heap [] 0 0 (MQ below (vp_Si (fun z => z = opdS rr n)) ([.ref ox] : List Value).toArray s 0 0 (fun _ => False)) (F0 m 4 ls []) := by
    intro d
    induction d with
    | zero =>
      intro i hd_i xi_i ei_i a_s ha_s ls hl
      refine lv_iload_n hx hb dX1_openDisputes_4 rfl (lv_at hl 0 rfl) ?_
      refine lv_aload_n hx hb dX1_openDisputes_5 rfl (lv_at hl 2 rfl) ?_
      refine wy_get (ci := 2) (v := .ref lo) (C := RX1) (T := TX1) (N := 5) hx hb hts hinX1 hown hK hP hq.1 rfl 0 (by decide) (hts (.fieldLink RX1 10 "Wheelpay" "rides" "Ljava/util/ArrayList;") (by decide +kernel)) (fun _ h9 => h9) rfl dX1_openDisputes_6 ?_
      refine vp_callSi (W.runV (As := []) (rest := [.int xi_i]) ⟨hx, hb, hml, hown, hts⟩ (m_Jx4a65c_size_8abf5 l hq.2.1) (cwV 0 hts gX1_openDisputes_Jx4a65c_size_8abf5 rfl rfl rfl (by decide +kernel) ⟨Nat.le_of_ble_eq_true rfl, Nat.le_of_ble_eq_true rfl⟩) (wy_pVR hK hP hL1 rfl) rfl rfl hl.1 rfl (lv_room (Nat.le_of_ble_eq_true rfl)) dX1_openDisputes_9 ⟨Nat.le_of_ble_eq_true rfl, Nat.le_of_ble_eq_true rfl⟩) (fun r_1 er_1 => ?_)
      refine lv_icmp_ge (tgt := 38) hx hb dX1_openDisputes_12 (by decide) (fun c_2 => ?_) (fun c_2 => ?_)
      · have nc_2 : n ≤ i := (wy_ge ei_i er_1 (by omega) (by omega)).mp c_2
        obtain rfl : n = i := by omega
        refine lv_iload_n hx hb dX1_openDisputes_38 rfl (lv_at hl 1 rfl) ?_
        exact wy_iR (by simp only [ha_s, er_1]; rfl) hx hb hr hlocks dX1_openDisputes_39
      · have nc_2 : ¬ (n ≤ i) := fun z => c_2 ((wy_ge ei_i er_1 (by omega) (by omega)).mpr z)
        exact absurd nc_2 (by omega)
    | succ d ih_d =>
      intro i hd_i xi_i ei_i a_s ha_s ls hl
      refine lv_iload_n hx hb dX1_openDisputes_4 rfl (lv_at hl 0 rfl) ?_
      refine lv_aload_n hx hb dX1_openDisputes_5 rfl (lv_at hl 2 rfl) ?_
      refine wy_get (ci := 2) (v := .ref lo) (C := RX1) (T := TX1) (N := 5) hx hb hts hinX1 hown hK hP hq.1 rfl 0 (by decide) (hts (.fieldLink RX1 10 "Wheelpay" "rides" "Ljava/util/ArrayList;") (by decide +kernel)) (fun _ h9 => h9) rfl dX1_openDisputes_6 ?_
      refine vp_callSi (W.runV (As := []) (rest := [.int xi_i]) ⟨hx, hb, hml, hown, hts⟩ (m_Jx4a65c_size_8abf5 l hq.2.1) (cwV 0 hts gX1_openDisputes_Jx4a65c_size_8abf5 rfl rfl rfl (by decide +kernel) ⟨Nat.le_of_ble_eq_true rfl, Nat.le_of_ble_eq_true rfl⟩) (wy_pVR hK hP hL1 rfl) rfl rfl hl.1 rfl (lv_room (Nat.le_of_ble_eq_true rfl)) dX1_openDisputes_9 ⟨Nat.le_of_ble_eq_true rfl, Nat.le_of_ble_eq_true rfl⟩) (fun r_3 er_3 => ?_)
      refine lv_icmp_ge (tgt := 38) hx hb dX1_openDisputes_12 (by decide) (fun c_4 => ?_) (fun c_4 => ?_)
      · have nc_4 : n ≤ i := (wy_ge ei_i er_3 (by omega) (by omega)).mp c_4
        exact absurd nc_4 (by omega)
      · have nc_4 : ¬ (n ≤ i) := fun z => c_4 ((wy_ge ei_i er_3 (by omega) (by omega)).mpr z)
        refine lv_iload_n hx hb dX1_openDisputes_15 rfl (lv_at hl 1 rfl) ?_
        refine lv_aload_n hx hb dX1_openDisputes_16 rfl (lv_at hl 2 rfl) ?_
        refine wy_get (ci := 2) (v := .ref lo) (C := RX1) (T := TX1) (N := 5) hx hb hts hinX1 hown hK hP hq.1 rfl 0 (by decide) (hts (.fieldLink RX1 10 "Wheelpay" "rides" "Ljava/util/ArrayList;") (by decide +kernel)) (fun _ h9 => h9) rfl dX1_openDisputes_17 ?_
        refine lv_iload_n hx hb dX1_openDisputes_20 rfl (lv_at hl 0 rfl) ?_
        refine va_csr (W.runV (As := [.int xi_i]) (rest := [.int a_s]) ⟨hx, hb, hml, hown, hts⟩ (m_Jx4a65c_get_915e3 l hq.2.1 (xi_i) (i) (by omega) ei_i) (cwV 1 hts gX1_openDisputes_Jx4a65c_get_915e3 rfl rfl rfl (by decide +kernel) ⟨Nat.le_of_ble_eq_true rfl, Nat.le_of_ble_eq_true rfl⟩) (wy_pVR hK hP hL1 rfl) rfl rfl hl.1 rfl (lv_room (Nat.le_of_ble_eq_true rfl)) dX1_openDisputes_21 ⟨Nat.le_of_ble_eq_true rfl, Nat.le_of_ble_eq_true rfl⟩) (fun r_5 er_5 => ?_)
        subst er_5
        refine wy_cast (ci := 1) hx hb hown (hts (.classLink RX1 55 "Wheelpay$Ride") (by decide +kernel)) hK hP (hq.2.2.2.1 (i) (by omega)).1 rfl dX1_openDisputes_24 ?_
        refine vp_callSi (W.runV (As := []) (rest := [.int a_s]) ⟨hx, hb, hml, hown, hts⟩ (m_X0_unsettledDisputes l (hq.2.2.2.1 (i) (by omega))) (cwV 0 hts gX1_openDisputes_X0_unsettledDisputes rfl rfl rfl (by decide +kernel) ⟨Nat.le_of_ble_eq_true rfl, Nat.le_of_ble_eq_true rfl⟩) (wy_pVR hK hP (hq.2.2.2.1 (i) (by omega)).1 rfl) rfl rfl hl.1 rfl (lv_room (Nat.le_of_ble_eq_true rfl)) dX1_openDisputes_27 ⟨Nat.le_of_ble_eq_true rfl, Nat.le_of_ble_eq_true rfl⟩) (fun r_6 er_6 => ?_)
        refine lv_iadd hx hb dX1_openDisputes_30 ?_
        refine lv_topi (fun x_7 ex_7 => ?_)
        refine lv_istore_n (lv' := [(1, .int x_7), (2, .int xi_i), (0, .ref ox)]) hx hb dX1_openDisputes_31 rfl hl (by decide) rfl (fun ls hl => ?_)
        obtain ⟨x_8, ex_8⟩ : ∃ y : Int32, y = xi_i + 1 := ⟨_, rfl⟩
        have nx_8 : x_8 = nI (i + 1) := by rw [ex_8, ei_i, nI_1]
        refine lv_iinc (v := x_8) (lv' := [(2, .int x_8), (1, .int x_7), (0, .ref ox)]) hx hb dX1_openDisputes_32 hl (k := 1) rfl (by rw [ex_8]; rfl) (by decide) rfl (fun ls hl => ?_)
        refine lv_goto (tgt := 4) hx hb dX1_openDisputes_35 (by decide) ?_
        exact ih_d (i + 1) (by omega) _ nx_8 _ (by simp [bx_sum, fby, fok, ha_s, er_3, er_6, ex_7, ex_8]) ls (lv_sub hl [0, 1, 2] rfl)
  exact KK (n) 0 (by omega) _ rfl _ rfl ls (lv_sub hl [0, 1, 2] rfl)
set_option maxHeartbeats 4000000 in
set_option maxRecDepth 100000 in
theorem m_X1_week (l : Launch) {G : wy_G} {L : List Nat} {f : Nat → va_E} {ox lo : Nat} {ra ar : Nat → Nat} {n : Nat} {km mn : Int32} {wk : Nat} {po : Nat → Int32} {rr : Nat → wr_V} (hq : wx_S G L f ox lo ra ar n km mn wk po rr) : Met l yX1_week wsX1_week ({ frames := 0, cells := 0, slots := 0, locals := 0 } : Room) (va_Pc [.ref ox] (wy_R G L f)) (vp_Si (fun z => z = nI wk)) 0 0 (fun _ => False) := by
  refine Met.ofW (cc := cX1_week) (maxL := 1) (ret := (some .int)) (by decide) rfl ?_
  intro p e s m args below meth c s₁ B hml hv
  obtain ⟨rfl, hP, hK⟩ := hv
  have hx := B.exec
  have hb := B.bytes
  have hr := B.returns
  have hts := atoms_spec (ws := wsX1_week) B.pre
  have hown : s.vm.findClass RX1 = some m.cls := findClass_of_methodNamed B.named
  have hlocks := B.notSynchronized
  have hinX1 : ∀ w ∈ wsX10, w ∈ wsX1_week := by decide +kernel
  obtain ⟨md, he, cap, gg, hL1, -⟩ := id hq.2.1
  have hn : n ≤ 40 := hq.2.2.2.2.1
  have hwk : wk ≤ 20 := hq.2.2.2.2.2.1
  have hl := lv_entry ([.ref ox]) (n := 1) (Nat.le_of_ble_eq_true rfl)
  rw [lg_entry_eq]
  generalize (lg_sl ([.ref ox]) ++ List.replicate (1 - (lg_sl ([.ref ox])).length) Slot.unset).toArray = ls at hl ⊢
  have hl : lv_has ls 1 [(0, .ref ox)] := hl
  refine lv_aload_n hx hb dX1_week_0 rfl (lv_at hl 0 rfl) ?_
  refine wy_get (ci := 2) (v := .int (nI wk)) (C := RX1) (T := TX1) (N := 5) hx hb hts hinX1 hown hK hP hq.1 rfl 4 (by decide) (hts (.fieldLink RX1 27 "Wheelpay" "presentWeek" "I") (by decide +kernel)) (fun _ h9 => h9) rfl dX1_week_1 ?_
  exact wy_iR rfl hx hb hr hlocks dX1_week_4
set_option maxHeartbeats 4000000 in
set_option maxRecDepth 100000 in
theorem m_X1_house (l : Launch) {G : wy_G} {L : List Nat} {f : Nat → va_E} {ox lo : Nat} {ra ar : Nat → Nat} {n : Nat} {km mn : Int32} {wk : Nat} {po : Nat → Int32} {rr : Nat → wr_V} (hq : wx_S G L f ox lo ra ar n km mn wk po rr) : Met l yX1_house wsX1_house ({ frames := 7, cells := 0, slots := 0, locals := 159 } : Room) (va_Pc [.ref ox] (wy_R G L f)) (vp_Si (fun z => z = houS rr n wk)) 0 0 (fun _ => False) := by
  refine Met.ofW (cc := cX1_house) (maxL := 4) (ret := (some .int)) (by decide) rfl ?_
  intro p e s m args below meth c s₁ B hml hv
  obtain ⟨rfl, hP, hK⟩ := hv
  have hx := B.exec
  have hb := B.bytes
  have hr := B.returns
  have hts := atoms_spec (ws := wsX1_house) B.pre
  have hown : s.vm.findClass RX1 = some m.cls := findClass_of_methodNamed B.named
  have hlocks := B.notSynchronized
  have hinX1 : ∀ w ∈ wsX10, w ∈ wsX1_house := by decide +kernel
  obtain ⟨md, he, cap, gg, hL1, -⟩ := id hq.2.1
  have hn : n ≤ 40 := hq.2.2.2.2.1
  have hwk : wk ≤ 20 := hq.2.2.2.2.2.1
  have hl := lv_entry ([.ref ox]) (n := 4) (Nat.le_of_ble_eq_true rfl)
  rw [lg_entry_eq]
  generalize (lg_sl ([.ref ox]) ++ List.replicate (4 - (lg_sl ([.ref ox])).length) Slot.unset).toArray = ls at hl ⊢
  have hl : lv_has ls 4 [(0, .ref ox)] := hl
  refine lv_iconst (v := 0) hx hb dX1_house_0 (by decide) ?_
  refine lv_istore_n (lv' := [(1, .int 0), (0, .ref ox)]) hx hb dX1_house_1 rfl hl (by decide) rfl (fun ls hl => ?_)
  refine lv_iconst (v := 0) hx hb dX1_house_2 (by decide) ?_
  refine lv_istore_n (lv' := [(2, .int 0), (1, .int 0), (0, .ref ox)]) hx hb dX1_house_3 rfl hl (by decide) rfl (fun ls hl => ?_)
  have KK : ∀ (d i : Nat), i + d = n → ∀ (xi_i : Int32), xi_i = nI (i) → ∀ (a_s : Int32), a_s = bx_sum (fun k => if rfi (rr k) then bx_sum (rch (rr k)) 10 - bx_sum (rrf (rr k)) 10 else 0) i → ∀ ls : Array Slot, lv_has ls 4 [(2, .int xi_i), (1, .int a_s), (0, .ref ox)] → W p l e (headSpec wsX1_house ({ frames := 7, cells := 0, slots := 0, locals := 159 } : Room)).room s m ([.ref ox] : List Value).toArray below meth c s.heap [] 0 0 (MQ below (vp_Si (fun z => z = houS rr n wk)) ([.ref ox] : List Value).toArray s 0 0 (fun _ => False)) (F0 m 4 ls []) := by
    intro d
    induction d with
    | zero =>
      intro i hd_i xi_i ei_i a_s ha_s ls hl
      refine lv_iload_n hx hb dX1_house_4 rfl (lv_at hl 0 rfl) ?_
      refine lv_aload_n hx hb dX1_house_5 rfl (lv_at hl 2 rfl) ?_
      refine wy_get (ci := 2) (v := .ref lo) (C := RX1) (T := TX1) (N := 5) hx hb hts hinX1 hown hK hP hq.1 rfl 0 (by decide) (hts (.fieldLink RX1 10 "Wheelpay" "rides" "Ljava/util/ArrayList;") (by decide +kernel)) (fun _ h9 => h9) rfl dX1_house_6 ?_
      refine vp_callSi (W.runV (As := []) (rest := [.int xi_i]) ⟨hx, hb, hml, hown, hts⟩ (m_Jx4a65c_size_8abf5 l hq.2.1) (cwV 0 hts gX1_house_Jx4a65c_size_8abf5 rfl rfl rfl (by decide +kernel) ⟨Nat.le_of_ble_eq_true rfl, Nat.le_of_ble_eq_true rfl⟩) (wy_pVR hK hP hL1 rfl) rfl rfl hl.1 rfl (lv_room (Nat.le_of_ble_eq_true rfl)) dX1_house_9 ⟨Nat.le_of_ble_eq_true rfl, Nat.le_of_ble_eq_true rfl⟩) (fun r_1 er_1 => ?_)
      refine lv_icmp_ge (tgt := 52) hx hb dX1_house_12 (by decide) (fun c_2 => ?_) (fun c_2 => ?_)
      · have nc_2 : n ≤ i := (wy_ge ei_i er_1 (by omega) (by omega)).mp c_2
        obtain rfl : n = i := by omega
        refine lv_iconst (v := 0) hx hb dX1_house_52 (by decide) ?_
        refine lv_istore_n (lv' := [(2, .int 0), (1, .int a_s), (0, .ref ox)]) hx hb dX1_house_53 rfl hl (by decide) rfl (fun ls hl => ?_)
        have KK2 : ∀ (d2 j : Nat), j + d2 = 5 → ∀ (xi_j : Int32), xi_j = nI (j) → ∀ (b_s : Int32), b_s = hrdS rr n - bx_sum (fun d => payB rr n (nI d) (wk + 1)) j → ∀ ls : Array Slot, lv_has ls 4 [(2, .int xi_j), (1, .int b_s), (0, .ref ox)] → W p l e (headSpec wsX1_house ({ frames := 7, cells := 0, slots := 0, locals := 159 } : Room)).room s m ([.ref ox] : List Value).toArray below meth c s.heap [] 0 0 (MQ below (vp_Si (fun z => z = houS rr n wk)) ([.ref ox] : List Value).toArray s 0 0 (fun _ => False)) (F0 m 54 ls []) := by
          intro d2
          induction d2 with
          | zero =>
            intro j hd_j xi_j ei_j b_s hb_s ls hl
            refine lv_iload_n hx hb dX1_house_54 rfl (lv_at hl 0 rfl) ?_
            refine lv_iconst (v := 5) hx hb dX1_house_55 (by decide) ?_
            refine lv_icmp_ge (tgt := 79) hx hb dX1_house_56 (by decide) (fun c_3 => ?_) (fun c_3 => ?_)
            · have nc_3 : 5 ≤ j := (wy_ge ei_j (rfl : (5 : Int32) = nI 5) (by omega) (by decide)).mp c_3
              obtain rfl : 5 = j := by omega
              refine lv_iload_n hx hb dX1_house_79 rfl (lv_at hl 1 rfl) ?_
              exact wy_iR hb_s hx hb hr hlocks dX1_house_80
            · have nc_3 : ¬ (5 ≤ j) := fun z => c_3 ((wy_ge ei_j (rfl : (5 : Int32) = nI 5) (by omega) (by decide)).mpr z)
              exact absurd nc_3 (by omega)
          | succ d2 ih_d2 =>
            intro j hd_j xi_j ei_j b_s hb_s ls hl
            refine lv_iload_n hx hb dX1_house_54 rfl (lv_at hl 0 rfl) ?_
            refine lv_iconst (v := 5) hx hb dX1_house_55 (by decide) ?_
            refine lv_icmp_ge (tgt := 79) hx hb dX1_house_56 (by decide) (fun c_4 => ?_) (fun c_4 => ?_)
            · have nc_4 : 5 ≤ j := (wy_ge ei_j (rfl : (5 : Int32) = nI 5) (by omega) (by decide)).mp c_4
              exact absurd nc_4 (by omega)
            · have nc_4 : ¬ (5 ≤ j) := fun z => c_4 ((wy_ge ei_j (rfl : (5 : Int32) = nI 5) (by omega) (by decide)).mpr z)
              refine lv_iload_n hx hb dX1_house_59 rfl (lv_at hl 1 rfl) ?_
              refine lv_aload_n hx hb dX1_house_60 rfl (lv_at hl 2 rfl) ?_
              refine lv_iload_n hx hb dX1_house_61 rfl (lv_at hl 0 rfl) ?_
              refine lv_aload_n hx hb dX1_house_62 rfl (lv_at hl 2 rfl) ?_
              refine wy_get (ci := 2) (v := .int (nI wk)) (C := RX1) (T := TX1) (N := 5) hx hb hts hinX1 hown hK hP hq.1 rfl 4 (by decide) (hts (.fieldLink RX1 27 "Wheelpay" "presentWeek" "I") (by decide +kernel)) (fun _ h9 => h9) rfl dX1_house_63 ?_
              refine lv_iconst (v := 1) hx hb dX1_house_66 (by decide) ?_
              refine lv_iadd hx hb dX1_house_67 ?_
              refine lv_topi (fun x_5 ex_5 => ?_)
              have nx_5 : x_5 = nI (wk + 1) := ex_5.trans ((congr (congrArg (fun u v : Int32 => u + v) rfl) (rfl : (1 : Int32) = nI 1)).trans (nI_add _ _))
              refine vp_callSi (W.runV (As := [.int xi_j, .int x_5]) (rest := [.int b_s]) ⟨hx, hb, hml, hown, hts⟩ (m_X1_payBefore l hq (xi_j) (x_5) (wk + 1) (by omega) nx_5) (cwV 2 hts gX1_house_X1_payBefore rfl rfl rfl (by decide +kernel) ⟨Nat.le_of_ble_eq_true rfl, Nat.le_of_ble_eq_true rfl⟩) (wy_pVR hK hP hq.1 rfl) rfl rfl hl.1 rfl (lv_room (Nat.le_of_ble_eq_true rfl)) dX1_house_68 ⟨Nat.le_of_ble_eq_true rfl, Nat.le_of_ble_eq_true rfl⟩) (fun r_6 er_6 => ?_)
              refine lv_isub hx hb dX1_house_71 ?_
              refine lv_topi (fun x_7 ex_7 => ?_)
              refine lv_istore_n (lv' := [(1, .int x_7), (2, .int xi_j), (0, .ref ox)]) hx hb dX1_house_72 rfl hl (by decide) rfl (fun ls hl => ?_)
              obtain ⟨x_8, ex_8⟩ : ∃ y : Int32, y = xi_j + 1 := ⟨_, rfl⟩
              have nx_8 : x_8 = nI (j + 1) := by rw [ex_8, ei_j, nI_1]
              refine lv_iinc (v := x_8) (lv' := [(2, .int x_8), (1, .int x_7), (0, .ref ox)]) hx hb dX1_house_73 hl (k := 1) rfl (by rw [ex_8]; rfl) (by decide) rfl (fun ls hl => ?_)
              refine lv_goto (tgt := 54) hx hb dX1_house_76 (by decide) ?_
              exact ih_d2 (j + 1) (by omega) _ nx_8 _ (by simp only [er_1, hb_s, ex_5, er_6, ex_7, ex_8, bx_sum, ei_j]; exact wy_subadd _ _ _) ls (lv_sub hl [0, 1, 2] rfl)
        exact KK2 (5) 0 (by omega) _ rfl _ (by rw [ha_s]; exact (Int32.sub_zero _).symm) ls (lv_sub hl [0, 1, 2] rfl)
      · have nc_2 : ¬ (n ≤ i) := fun z => c_2 ((wy_ge ei_i er_1 (by omega) (by omega)).mpr z)
        exact absurd nc_2 (by omega)
    | succ d ih_d =>
      intro i hd_i xi_i ei_i a_s ha_s ls hl
      refine lv_iload_n hx hb dX1_house_4 rfl (lv_at hl 0 rfl) ?_
      refine lv_aload_n hx hb dX1_house_5 rfl (lv_at hl 2 rfl) ?_
      refine wy_get (ci := 2) (v := .ref lo) (C := RX1) (T := TX1) (N := 5) hx hb hts hinX1 hown hK hP hq.1 rfl 0 (by decide) (hts (.fieldLink RX1 10 "Wheelpay" "rides" "Ljava/util/ArrayList;") (by decide +kernel)) (fun _ h9 => h9) rfl dX1_house_6 ?_
      refine vp_callSi (W.runV (As := []) (rest := [.int xi_i]) ⟨hx, hb, hml, hown, hts⟩ (m_Jx4a65c_size_8abf5 l hq.2.1) (cwV 0 hts gX1_house_Jx4a65c_size_8abf5 rfl rfl rfl (by decide +kernel) ⟨Nat.le_of_ble_eq_true rfl, Nat.le_of_ble_eq_true rfl⟩) (wy_pVR hK hP hL1 rfl) rfl rfl hl.1 rfl (lv_room (Nat.le_of_ble_eq_true rfl)) dX1_house_9 ⟨Nat.le_of_ble_eq_true rfl, Nat.le_of_ble_eq_true rfl⟩) (fun r_9 er_9 => ?_)
      refine lv_icmp_ge (tgt := 52) hx hb dX1_house_12 (by decide) (fun c_10 => ?_) (fun c_10 => ?_)
      · have nc_10 : n ≤ i := (wy_ge ei_i er_9 (by omega) (by omega)).mp c_10
        exact absurd nc_10 (by omega)
      · have nc_10 : ¬ (n ≤ i) := fun z => c_10 ((wy_ge ei_i er_9 (by omega) (by omega)).mpr z)
        refine lv_aload_n hx hb dX1_house_15 rfl (lv_at hl 2 rfl) ?_
        refine wy_get (ci := 2) (v := .ref lo) (C := RX1) (T := TX1) (N := 5) hx hb hts hinX1 hown hK hP hq.1 rfl 0 (by decide) (hts (.fieldLink RX1 10 "Wheelpay" "rides" "Ljava/util/ArrayList;") (by decide +kernel)) (fun _ h9 => h9) rfl dX1_house_16 ?_
        refine lv_iload_n hx hb dX1_house_19 rfl (lv_at hl 0 rfl) ?_
        refine va_csr (W.runV (As := [.int xi_i]) (rest := []) ⟨hx, hb, hml, hown, hts⟩ (m_Jx4a65c_get_915e3 l hq.2.1 (xi_i) (i) (by omega) ei_i) (cwV 1 hts gX1_house_Jx4a65c_get_915e3 rfl rfl rfl (by decide +kernel) ⟨Nat.le_of_ble_eq_true rfl, Nat.le_of_ble_eq_true rfl⟩) (wy_pVR hK hP hL1 rfl) rfl rfl hl.1 rfl (lv_room (Nat.le_of_ble_eq_true rfl)) dX1_house_20 ⟨Nat.le_of_ble_eq_true rfl, Nat.le_of_ble_eq_true rfl⟩) (fun r_11 er_11 => ?_)
        subst er_11
        refine wy_cast (ci := 1) hx hb hown (hts (.classLink RX1 55 "Wheelpay$Ride") (by decide +kernel)) hK hP (hq.2.2.2.1 (i) (by omega)).1 rfl dX1_house_23 ?_
        refine lv_astore_n (lv' := [(3, .ref (ra (i))), (2, .int xi_i), (1, .int a_s), (0, .ref ox)]) hx hb dX1_house_26 rfl hl (by decide) rfl (fun ls hl => ?_)
        refine lv_aload_n hx hb dX1_house_27 rfl (lv_at hl 0 rfl) ?_
        refine vp_callSi (W.runV (As := []) (rest := []) ⟨hx, hb, hml, hown, hts⟩ (m_X0_isFinished l (hq.2.2.2.1 (i) (by omega))) (cwV 0 hts gX1_house_X0_isFinished rfl rfl rfl (by decide +kernel) ⟨Nat.le_of_ble_eq_true rfl, Nat.le_of_ble_eq_true rfl⟩) (wy_pVR hK hP (hq.2.2.2.1 (i) (by omega)).1 rfl) rfl rfl hl.1 rfl (lv_room (Nat.le_of_ble_eq_true rfl)) dX1_house_28 ⟨Nat.le_of_ble_eq_true rfl, Nat.le_of_ble_eq_true rfl⟩) (fun r_12 er_12 => ?_)
        refine lv_if_eq (tgt := 46) hx hb dX1_house_31 (by decide) (fun c_13 => ?_) (fun c_13 => ?_)
        · have bc_13 : (rfi (rr (i))) = false := bI_0 (er_12.symm.trans c_13)
          obtain ⟨x_14, ex_14⟩ : ∃ y : Int32, y = xi_i + 1 := ⟨_, rfl⟩
          have nx_14 : x_14 = nI (i + 1) := by rw [ex_14, ei_i, nI_1]
          refine lv_iinc (v := x_14) (lv' := [(2, .int x_14), (3, .ref (ra (i))), (1, .int a_s), (0, .ref ox)]) hx hb dX1_house_46 hl (k := 1) rfl (by rw [ex_14]; rfl) (by decide) rfl (fun ls hl => ?_)
          refine lv_goto (tgt := 4) hx hb dX1_house_49 (by decide) ?_
          exact ih_d (i + 1) (by omega) _ nx_14 _ (by simp [bx_sum, fby, fok, ha_s, er_9, er_12, ex_14, bc_13]) ls (lv_sub hl [0, 2, 3] rfl)
        · have bc_13 : (rfi (rr (i))) = true := bI_1 (fun z => c_13 (er_12.trans z))
          refine lv_iload_n hx hb dX1_house_34 rfl (lv_at hl 2 rfl) ?_
          refine lv_aload_n hx hb dX1_house_35 rfl (lv_at hl 0 rfl) ?_
          refine vp_callSi (W.runV (As := []) (rest := [.int a_s]) ⟨hx, hb, hml, hown, hts⟩ (m_X0_allCharges l (hq.2.2.2.1 (i) (by omega))) (cwV 0 hts gX1_house_X0_allCharges rfl rfl rfl (by decide +kernel) ⟨Nat.le_of_ble_eq_true rfl, Nat.le_of_ble_eq_true rfl⟩) (wy_pVR hK hP (hq.2.2.2.1 (i) (by omega)).1 rfl) rfl rfl hl.1 rfl (lv_room (Nat.le_of_ble_eq_true rfl)) dX1_house_36 ⟨Nat.le_of_ble_eq_true rfl, Nat.le_of_ble_eq_true rfl⟩) (fun r_15 er_15 => ?_)
          refine lv_aload_n hx hb dX1_house_39 rfl (lv_at hl 0 rfl) ?_
          refine vp_callSi (W.runV (As := []) (rest := [.int r_15, .int a_s]) ⟨hx, hb, hml, hown, hts⟩ (m_X0_allRefunds l (hq.2.2.2.1 (i) (by omega))) (cwV 0 hts gX1_house_X0_allRefunds rfl rfl rfl (by decide +kernel) ⟨Nat.le_of_ble_eq_true rfl, Nat.le_of_ble_eq_true rfl⟩) (wy_pVR hK hP (hq.2.2.2.1 (i) (by omega)).1 rfl) rfl rfl hl.1 rfl (lv_room (Nat.le_of_ble_eq_true rfl)) dX1_house_40 ⟨Nat.le_of_ble_eq_true rfl, Nat.le_of_ble_eq_true rfl⟩) (fun r_16 er_16 => ?_)
          refine lv_isub hx hb dX1_house_43 ?_
          refine lv_topi (fun x_17 ex_17 => ?_)
          refine lv_iadd hx hb dX1_house_44 ?_
          refine lv_topi (fun x_18 ex_18 => ?_)
          refine lv_istore_n (lv' := [(1, .int x_18), (3, .ref (ra (i))), (2, .int xi_i), (0, .ref ox)]) hx hb dX1_house_45 rfl hl (by decide) rfl (fun ls hl => ?_)
          obtain ⟨x_19, ex_19⟩ : ∃ y : Int32, y = xi_i + 1 := ⟨_, rfl⟩
          have nx_19 : x_19 = nI (i + 1) := by rw [ex_19, ei_i, nI_1]
          refine lv_iinc (v := x_19) (lv' := [(2, .int x_19), (1, .int x_18), (3, .ref (ra (i))), (0, .ref ox)]) hx hb dX1_house_46 hl (k := 2) rfl (by rw [ex_19]; rfl) (by decide) rfl (fun ls hl => ?_)
          refine lv_goto (tgt := 4) hx hb dX1_house_49 (by decide) ?_
          exact ih_d (i + 1) (by omega) _ nx_19 _ (by simp [bx_sum, fby, fok, ha_s, er_9, er_12, er_15, er_16, ex_17, ex_18, ex_19, bc_13]) ls (lv_sub hl [0, 1, 3] rfl)
  exact KK (n) 0 (by omega) _ rfl _ rfl ls (lv_sub hl [0, 1, 2] rfl)
