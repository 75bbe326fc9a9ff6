set_option maxHeartbeats 4000000 in
set_option maxRecDepth 100000 in
theorem m_X2_fails (l : Launch) {G : wy_G} {L : List Nat} {f : Nat → va_E} {sz : Nat} {om : Nat} {ma : Nat → Nat} {n : Nat} {km mn : Int32} {wk : Nat} {th : Int32} {g0 g1 g2 g3 g4 g5 g6 g7 g8 g9 : Nat → Int32} (hq : wm_S G L f om ma n km mn wk th g0 g1 g2 g3 g4 g5 g6 g7 g8 g9) (p1 : Int32) : Met l yX2_fails wsX2_fails ({ frames := 0, cells := 0, slots := 0, locals := 0 } : Room) (va_Pc [.ref om, .int p1] (wy_W G L f sz)) (wy_Q G (wm_t G L om ma n km mn wk p1 g0 g1 g2 g3 g4 g5 g6 g7 g8 g9 (some (.int (bI (decide (0 < p1)))))) (wy_A L sz)) 0 0 (wy_A L sz) := by
  refine Met.ofW (cc := cX2_fails) (maxL := 2) (ret := (some .boolean)) (by decide) rfl ?_
  intro p e s m args below meth c s₁ B hml hv
  obtain ⟨rfl, hv⟩ := hv
  obtain ⟨hw, hK, hA⟩ := wy_start hv
  have hsz := hv.1
  subst hsz
  have hx := B.exec
  have hb := B.bytes
  have hr := B.returns
  have hts := atoms_spec (ws := wsX2_fails) B.pre
  have hown : s.vm.findClass RX2 = some m.cls := findClass_of_methodNamed B.named
  have hlocks := B.notSynchronized
  have hinX2 : ∀ w ∈ wsX20, w ∈ wsX2_fails := by decide +kernel
  have hn : n ≤ 40 := hq.2.2.2.2.2.2.2.2.2.2.2.2.2.1
  have hwk : wk ≤ 20 := hq.2.2.2.2.2.2.2.2.2.2.2.2.2.2
  have hsN : ∀ v r, stN v r < 2 ^ 31 := fun v r => by unfold stN; split <;> (try split) <;> (try split) <;> decide
  have hdN : ∀ v r, dpN v r < 2 ^ 31 := fun v r => by unfold dpN; split <;> (try split) <;> (try split) <;> decide
  have hd1 := hq.2.2.2.2.2.2.2.2.2.2.2.1
  have hd2 := hq.2.2.2.2.2.2.2.2.2.2.2.2.1
  have hl := lv_entry ([.ref om, .int p1]) (n := 2) (Nat.le_of_ble_eq_true rfl)
  rw [lg_entry_eq]
  generalize (lg_sl ([.ref om, .int p1]) ++ List.replicate (2 - (lg_sl ([.ref om, .int p1])).length) Slot.unset).toArray = ls at hl ⊢
  have hl : lv_has ls 2 [(0, .ref om), (1, .int p1)] := hl
  refine lv_aload_n hx hb dX2_fails_0 rfl (lv_at hl 0 rfl) ?_
  refine lv_iload_n hx hb dX2_fails_1 rfl (lv_at hl 1 rfl) ?_
  refine wy_put (ci := 3) (v := .int p1) (ty := .int) (C := RX2) (T := TX2) (N := 15) hx hb hts hinX2 tyX2 tyX2_ok nmX2 hown hK hw hq.1 rfl 14 (by decide) (hts (.fieldLink RX2 48 "WheelpayModel" "thrown" "I") (by decide +kernel)) (fun _ h9 => h9) rfl (by decide +kernel) rfl rfl (Nat.le_of_ble_eq_true rfl) dX2_fails_2 (fun H locs f_1 hs_2 hn_3 hw => ?_)
  have hc_4 := wy_c.ne2 hq.2.1 hn_3 (hd1 0 (by decide)).symm
  have hc_5 := wy_c.ne2 hq.2.2.1 hn_3 (hd1 1 (by decide)).symm
  have hc_6 := wy_c.ne2 hq.2.2.2.1 hn_3 (hd1 2 (by decide)).symm
  have hc_7 := wy_c.ne2 hq.2.2.2.2.1 hn_3 (hd1 3 (by decide)).symm
  have hc_8 := wy_c.ne2 hq.2.2.2.2.2.1 hn_3 (hd1 4 (by decide)).symm
  have hc_9 := wy_c.ne2 hq.2.2.2.2.2.2.1 hn_3 (hd1 5 (by decide)).symm
  have hc_10 := wy_c.ne2 hq.2.2.2.2.2.2.2.1 hn_3 (hd1 6 (by decide)).symm
  have hc_11 := wy_c.ne2 hq.2.2.2.2.2.2.2.2.1 hn_3 (hd1 7 (by decide)).symm
  have hc_12 := wy_c.ne2 hq.2.2.2.2.2.2.2.2.2.1 hn_3 (hd1 8 (by decide)).symm
  have hc_13 := wy_c.ne2 hq.2.2.2.2.2.2.2.2.2.2.1 hn_3 (hd1 9 (by decide)).symm
  have hc_14 : wy_c L f_1 om (.inr (3, [.int km, .int mn, .int (nI n), .ref (ma 0), .ref (ma 1), .ref (ma 2), .ref (ma 3), .ref (ma 4), .ref (ma 5), .ref (ma 6), .ref (ma 7), .ref (ma 8), .int (nI wk), .ref (ma 9), .int p1])) := hs_2
  refine lv_iload_n hx hb dX2_fails_5 rfl (lv_at hl 1 rfl) ?_
  refine lv_if_le (tgt := 13) hx hb dX2_fails_6 (by decide) (fun c_15 => ?_) (fun c_15 => ?_)
  · refine lv_iconst (v := 0) hx hb dX2_fails_13 (by decide) ?_
    exact wy_zW rfl hx hb hr hlocks dX2_fails_14 hw (Nat.le_of_ble_eq_true rfl) (Nat.le_of_ble_eq_true rfl) ⟨by rw [show (decide (0 < p1)) = false from decide_eq_false (Int32.not_lt.mpr c_15)], rfl, ⟨hc_14, hc_4, hc_5, hc_6, hc_7, hc_8, hc_9, hc_10, hc_11, hc_12, hc_13, hd1, hd2, hn, hwk⟩⟩
  · refine lv_iconst (v := 1) hx hb dX2_fails_9 (by decide) ?_
    refine lv_goto (tgt := 14) hx hb dX2_fails_10 (by decide) ?_
    exact wy_zW rfl hx hb hr hlocks dX2_fails_14 hw (Nat.le_of_ble_eq_true rfl) (Nat.le_of_ble_eq_true rfl) ⟨by rw [show (decide (0 < p1)) = true from decide_eq_true (Int32.not_le.mp c_15)], rfl, ⟨hc_14, hc_4, hc_5, hc_6, hc_7, hc_8, hc_9, hc_10, hc_11, hc_12, hc_13, hd1, hd2, hn, hwk⟩⟩
set_option maxHeartbeats 4000000 in
set_option maxRecDepth 100000 in
theorem m_X2_tells (l : Launch) {G : wy_G} {L : List Nat} {f : Nat → va_E} {sz : Nat} {om : Nat} {ma : Nat → Nat} {n : Nat} {km mn : Int32} {wk : Nat} {th : Int32} {g0 g1 g2 g3 g4 g5 g6 g7 g8 g9 : Nat → Int32} (hq : wm_S G L f om ma n km mn wk th g0 g1 g2 g3 g4 g5 g6 g7 g8 g9) (p1 : Int32) : Met l yX2_tells wsX2_tells ({ frames := 0, cells := 0, slots := 0, locals := 0 } : Room) (va_Pc [.ref om, .int p1] (wy_W G L f sz)) (wy_Q G (wm_t G L om ma n km mn wk 0 g0 g1 g2 g3 g4 g5 g6 g7 g8 g9 (some (.int p1))) (wy_A L sz)) 0 0 (wy_A L sz) := by
  refine Met.ofW (cc := cX2_tells) (maxL := 2) (ret := (some .int)) (by decide) rfl ?_
  intro p e s m args below meth c s₁ B hml hv
  obtain ⟨rfl, hv⟩ := hv
  obtain ⟨hw, hK, hA⟩ := wy_start hv
  have hsz := hv.1
  subst hsz
  have hx := B.exec
  have hb := B.bytes
  have hr := B.returns
  have hts := atoms_spec (ws := wsX2_tells) B.pre
  have hown : s.vm.findClass RX2 = some m.cls := findClass_of_methodNamed B.named
  have hlocks := B.notSynchronized
  have hinX2 : ∀ w ∈ wsX20, w ∈ wsX2_tells := by decide +kernel
  have hn : n ≤ 40 := hq.2.2.2.2.2.2.2.2.2.2.2.2.2.1
  have hwk : wk ≤ 20 := hq.2.2.2.2.2.2.2.2.2.2.2.2.2.2
  have hsN : ∀ v r, stN v r < 2 ^ 31 := fun v r => by unfold stN; split <;> (try split) <;> (try split) <;> decide
  have hdN : ∀ v r, dpN v r < 2 ^ 31 := fun v r => by unfold dpN; split <;> (try split) <;> (try split) <;> decide
  have hd1 := hq.2.2.2.2.2.2.2.2.2.2.2.1
  have hd2 := hq.2.2.2.2.2.2.2.2.2.2.2.2.1
  have hl := lv_entry ([.ref om, .int p1]) (n := 2) (Nat.le_of_ble_eq_true rfl)
  rw [lg_entry_eq]
  generalize (lg_sl ([.ref om, .int p1]) ++ List.replicate (2 - (lg_sl ([.ref om, .int p1])).length) Slot.unset).toArray = ls at hl ⊢
  have hl : lv_has ls 2 [(0, .ref om), (1, .int p1)] := hl
  refine lv_aload_n hx hb dX2_tells_0 rfl (lv_at hl 0 rfl) ?_
  refine lv_iconst (v := 0) hx hb dX2_tells_1 (by decide) ?_
  refine wy_put (ci := 3) (v := .int 0) (ty := .int) (C := RX2) (T := TX2) (N := 15) hx hb hts hinX2 tyX2 tyX2_ok nmX2 hown hK hw hq.1 rfl 14 (by decide) (hts (.fieldLink RX2 48 "WheelpayModel" "thrown" "I") (by decide +kernel)) (fun _ h9 => h9) rfl (by decide +kernel) rfl rfl (Nat.le_of_ble_eq_true rfl) dX2_tells_2 (fun H locs f_1 hs_2 hn_3 hw => ?_)
  have hc_4 := wy_c.ne2 hq.2.1 hn_3 (hd1 0 (by decide)).symm
  have hc_5 := wy_c.ne2 hq.2.2.1 hn_3 (hd1 1 (by decide)).symm
  have hc_6 := wy_c.ne2 hq.2.2.2.1 hn_3 (hd1 2 (by decide)).symm
  have hc_7 := wy_c.ne2 hq.2.2.2.2.1 hn_3 (hd1 3 (by decide)).symm
  have hc_8 := wy_c.ne2 hq.2.2.2.2.2.1 hn_3 (hd1 4 (by decide)).symm
  have hc_9 := wy_c.ne2 hq.2.2.2.2.2.2.1 hn_3 (hd1 5 (by decide)).symm
  have hc_10 := wy_c.ne2 hq.2.2.2.2.2.2.2.1 hn_3 (hd1 6 (by decide)).symm
  have hc_11 := wy_c.ne2 hq.2.2.2.2.2.2.2.2.1 hn_3 (hd1 7 (by decide)).symm
  have hc_12 := wy_c.ne2 hq.2.2.2.2.2.2.2.2.2.1 hn_3 (hd1 8 (by decide)).symm
  have hc_13 := wy_c.ne2 hq.2.2.2.2.2.2.2.2.2.2.1 hn_3 (hd1 9 (by decide)).symm
  have hc_14 : wy_c L f_1 om (.inr (3, [.int km, .int mn, .int (nI n), .ref (ma 0), .ref (ma 1), .ref (ma 2), .ref (ma 3), .ref (ma 4), .ref (ma 5), .ref (ma 6), .ref (ma 7), .ref (ma 8), .int (nI wk), .ref (ma 9), .int 0])) := hs_2
  refine lv_iload_n hx hb dX2_tells_5 rfl (lv_at hl 1 rfl) ?_
  exact wy_iW hx hb hr hlocks dX2_tells_6 hw (Nat.le_of_ble_eq_true rfl) (Nat.le_of_ble_eq_true rfl) ⟨rfl, rfl, ⟨hc_14, hc_4, hc_5, hc_6, hc_7, hc_8, hc_9, hc_10, hc_11, hc_12, hc_13, hd1, hd2, hn, hwk⟩⟩
set_option maxHeartbeats 4000000 in
set_option maxRecDepth 100000 in
theorem m_X2_book (l : Launch) {G : wy_G} {L : List Nat} {f : Nat → va_E} {sz : Nat} {om : Nat} {ma : Nat → Nat} {n : Nat} {km mn : Int32} {wk : Nat} {th : Int32} {po : Nat → Int32} {rr : Nat → wr_V} {g0 g1 g2 g3 g4 g5 g6 g7 g8 g9 : Nat → Int32} {t : Nat} (hq : wm_S G L f om ma n km mn wk th g0 g1 g2 g3 g4 g5 g6 g7 g8 g9) (hm : wm_r po rr g0 g1 g2 g3 g4 g5 g6 g7 g8 g9) (hi : ∀ k, k < 40 → wi t (rr k)) (ht1 : t + 1 ≤ 512) (p1 p2 : Int32) : Met l yX2_book wsX2_book ({ frames := 3, cells := 0, slots := 0, locals := 65 } : Room) (va_Pc [.ref om, .int p1, .int p2] (wy_W G L f sz)) (wy_Q G (wm_p G L om ma (if rdC n p1 p2 (bkB (rr (ix p1)) (ix p2)) = 0 then n else n) (if rdC n p1 p2 (bkB (rr (ix p1)) (ix p2)) = 0 then km else km) (if rdC n p1 p2 (bkB (rr (ix p1)) (ix p2)) = 0 then mn else mn) (if rdC n p1 p2 (bkB (rr (ix p1)) (ix p2)) = 0 then wk else wk) (if rdC n p1 p2 (bkB (rr (ix p1)) (ix p2)) = 0 then po else po) (if rdC n p1 p2 (bkB (rr (ix p1)) (ix p2)) = 0 then va_up rr (ix p1) (vBook (rr (ix p1)) (ix p2)) else rr) (rdC n p1 p2 (bkB (rr (ix p1)) (ix p2))) (some (.int (if rdC n p1 p2 (bkB (rr (ix p1)) (ix p2)) = 0 then freeR (vBook (rr (ix p1)) (ix p2)) else 0)))) (wy_A L sz)) 0 0 (wy_A L sz) := by
  refine Met.ofW (cc := cX2_book) (maxL := 4) (ret := (some .int)) (by decide) rfl ?_
  intro p e s m args below meth c s₁ B hml hv
  obtain ⟨rfl, hv⟩ := hv
  obtain ⟨hw, hK, hA⟩ := wy_start hv
  have hsz := hv.1
  subst hsz
  have hx := B.exec
  have hb := B.bytes
  have hr := B.returns
  have hts := atoms_spec (ws := wsX2_book) B.pre
  have hown : s.vm.findClass RX2 = some m.cls := findClass_of_methodNamed B.named
  have hlocks := B.notSynchronized
  have hinX2 : ∀ w ∈ wsX20, w ∈ wsX2_book := by decide +kernel
  have hn : n ≤ 40 := hq.2.2.2.2.2.2.2.2.2.2.2.2.2.1
  have hwk : wk ≤ 20 := hq.2.2.2.2.2.2.2.2.2.2.2.2.2.2
  have hsN : ∀ v r, stN v r < 2 ^ 31 := fun v r => by unfold stN; split <;> (try split) <;> (try split) <;> decide
  have hdN : ∀ v r, dpN v r < 2 ^ 31 := fun v r => by unfold dpN; split <;> (try split) <;> (try split) <;> decide
  have hd1 := hq.2.2.2.2.2.2.2.2.2.2.2.1
  have hd2 := hq.2.2.2.2.2.2.2.2.2.2.2.2.1
  have ht : t ≤ 512 := by omega
  have hl := lv_entry ([.ref om, .int p1, .int p2]) (n := 4) (Nat.le_of_ble_eq_true rfl)
  rw [lg_entry_eq]
  generalize (lg_sl ([.ref om, .int p1, .int p2]) ++ List.replicate (4 - (lg_sl ([.ref om, .int p1, .int p2])).length) Slot.unset).toArray = ls at hl ⊢
  have hl : lv_has ls 4 [(0, .ref om), (1, .int p1), (2, .int p2)] := hl
  refine lv_aload_n hx hb dX2_book_0 rfl (lv_at hl 0 rfl) ?_
  refine lv_iload_n hx hb dX2_book_1 rfl (lv_at hl 1 rfl) ?_
  refine lv_iload_n hx hb dX2_book_2 rfl (lv_at hl 2 rfl) ?_
  refine vp_callSi (W.runV (As := [.int p1, .int p2]) (rest := []) ⟨hx, hb, hml, hown, hts⟩ (m_X2_isRider l hq hm hi ht (p1) (p2)) (cwV 2 hts gX2_book_X2_isRider rfl rfl rfl (by decide +kernel) ⟨Nat.le_of_ble_eq_true rfl, Nat.le_of_ble_eq_true rfl⟩) (wy_pVR hK hw.1 hq.1 rfl) rfl rfl hl.1 rfl (lv_room (Nat.le_of_ble_eq_true rfl)) dX2_book_3 ⟨Nat.le_of_ble_eq_true rfl, Nat.le_of_ble_eq_true rfl⟩) (fun r_1 er_1 => ?_)
  refine lv_istore_n (lv' := [(3, .int r_1), (0, .ref om), (1, .int p1), (2, .int p2)]) hx hb dX2_book_6 rfl hl (by decide) rfl (fun ls hl => ?_)
  refine lv_aload_n hx hb dX2_book_7 rfl (lv_at hl 1 rfl) ?_
  refine lv_iload_n hx hb dX2_book_8 rfl (lv_at hl 0 rfl) ?_
  refine lv_if_ne (tgt := 16) hx hb dX2_book_9 (by decide) (fun c_2 => ?_) (fun c_2 => ?_)
  · have bc_2 : (okN n p1 && okN 10 p2) = true := bI_1 (fun z => c_2 (er_1.trans z))
    obtain ⟨hok1, hok2⟩ : okN n p1 = true ∧ okN 10 p2 = true := by simpa using bc_2
    obtain ⟨hk1, e1⟩ := okN_ix hok1 (by omega)
    obtain ⟨hr10, e2⟩ := okN_ix hok2 (by omega)
    have hk40 : ix p1 < 40 := by omega
    refine lv_aload_n hx hb dX2_book_16 rfl (lv_at hl 1 rfl) ?_
    refine wy_get (ci := 3) (v := .ref (ma 3)) (C := RX2) (T := TX2) (N := 15) hx hb hts hinX2 hown hK hw.1 hq.1 rfl 6 (by decide) (hts (.fieldLink RX2 26 "WheelpayModel" "isDone" "[Z") (by decide +kernel)) (fun _ h9 => h9) rfl dX2_book_17 ?_
    refine lv_iload_n hx hb dX2_book_20 rfl (lv_at hl 2 rfl) ?_
    refine wy_zald hx hb hK hw.1 hq.2.2.2.2.1 ((ix p1)) e1 (by omega) (by omega) dX2_book_21 ?_
    rw [show g3 ((ix p1)) = bI (rfi (rr (ix p1))) from (hm.1 ((ix p1)) (by omega)).2.2.2.1]
    refine lv_if_ne (tgt := 42) hx hb dX2_book_22 (by decide) (fun c_3 => ?_) (fun c_3 => ?_)
    · have bc_3 : (rfi (rr (ix p1))) = true := bI_1 (fun z => c_3 (rfl.trans z))
      refine lv_iconst (v := 2) hx hb dX2_book_42 (by decide) ?_
      refine lv_goto (tgt := 47) hx hb dX2_book_43 (by decide) ?_
      refine wy_call (va_runV (As := [.int 2]) (rest := []) ⟨hx, hb, hml, hown, hts⟩ (m_X2_fails l hq (2)) (cwV 1 hts gX2_book_X2_fails rfl rfl rfl (by decide +kernel) ⟨Nat.le_of_ble_eq_true rfl, Nat.le_of_ble_eq_true rfl⟩) (wy_pVW hK hw hq.1 rfl) rfl rfl hl.1 rfl (lv_room (Nat.le_of_ble_eq_true rfl)) dX2_book_47 ⟨Nat.le_of_ble_eq_true rfl, Nat.le_of_ble_eq_true rfl⟩) hw hA (fun rw_4 Lw_4 fw_4 H locs hpost hw => ?_)
      obtain ⟨er_4, eL_4, hq⟩ := hpost
      subst er_4
      obtain rfl := eL_4.symm
      rw [show bI (decide ((0 : Int32) < 2)) = 1 from rfl]
      refine lv_if_eq (tgt := 55) hx hb dX2_book_50 (by decide) (fun c_5 => ?_) (fun c_5 => ?_)
      · exact absurd c_5 (by decide)
      · have bc_5 : (true) = true := bI_1 (fun z => c_5 (rfl.trans z))
        refine lv_iconst (v := 0) hx hb dX2_book_53 (by decide) ?_
        exact wy_iW hx hb hr hlocks dX2_book_54 hw (Nat.le_of_ble_eq_true rfl) (Nat.le_of_ble_eq_true rfl) (wm_no (by simp [rdC, bkB, Bool.or_assoc, bc_2, bc_3, bc_5, hok1, hok2]) (by decide) hq hm)
    · have bc_3 : (rfi (rr (ix p1))) = false := bI_0 (rfl.symm.trans c_3)
      have hfinx : rfi (rr (ix p1)) = false := bc_3
      refine lv_aload_n hx hb dX2_book_25 rfl (lv_at hl 1 rfl) ?_
      refine lv_iload_n hx hb dX2_book_26 rfl (lv_at hl 2 rfl) ?_
      refine vp_callSi (W.runV (As := [.int p1]) (rest := [.ref om]) ⟨hx, hb, hml, hown, hts⟩ (m_X2_free l hq hm hi ht (p1) ((ix p1)) (by omega) e1 hfinx) (cwV 1 hts gX2_book_X2_free rfl rfl rfl (by decide +kernel) ⟨Nat.le_of_ble_eq_true rfl, Nat.le_of_ble_eq_true rfl⟩) (wy_pVR hK hw.1 hq.1 rfl) rfl rfl hl.1 rfl (lv_room (Nat.le_of_ble_eq_true rfl)) dX2_book_27 ⟨Nat.le_of_ble_eq_true rfl, Nat.le_of_ble_eq_true rfl⟩) (fun r_6 er_6 => ?_)
      refine lv_if_eq (tgt := 42) hx hb dX2_book_30 (by decide) (fun c_7 => ?_) (fun c_7 => ?_)
      · have hfr0 : freeR (rr (ix p1)) ≤ 0 := (free0 (hi _ hk40)).mpr (by rw [← er_6]; exact c_7)
        refine lv_iconst (v := 2) hx hb dX2_book_42 (by decide) ?_
        refine lv_goto (tgt := 47) hx hb dX2_book_43 (by decide) ?_
        refine wy_call (va_runV (As := [.int 2]) (rest := []) ⟨hx, hb, hml, hown, hts⟩ (m_X2_fails l hq (2)) (cwV 1 hts gX2_book_X2_fails rfl rfl rfl (by decide +kernel) ⟨Nat.le_of_ble_eq_true rfl, Nat.le_of_ble_eq_true rfl⟩) (wy_pVW hK hw hq.1 rfl) rfl rfl hl.1 rfl (lv_room (Nat.le_of_ble_eq_true rfl)) dX2_book_47 ⟨Nat.le_of_ble_eq_true rfl, Nat.le_of_ble_eq_true rfl⟩) hw hA (fun rw_8 Lw_8 fw_8 H locs hpost hw => ?_)
        obtain ⟨er_8, eL_8, hq⟩ := hpost
        subst er_8
        obtain rfl := eL_8.symm
        rw [show bI (decide ((0 : Int32) < 2)) = 1 from rfl]
        refine lv_if_eq (tgt := 55) hx hb dX2_book_50 (by decide) (fun c_9 => ?_) (fun c_9 => ?_)
        · exact absurd c_9 (by decide)
        · have bc_9 : (true) = true := bI_1 (fun z => c_9 (rfl.trans z))
          refine lv_iconst (v := 0) hx hb dX2_book_53 (by decide) ?_
          exact wy_iW hx hb hr hlocks dX2_book_54 hw (Nat.le_of_ble_eq_true rfl) (Nat.le_of_ble_eq_true rfl) (wm_no (by simp [rdC, bkB, Bool.or_assoc, bc_2, bc_3, bc_9, hok1, hok2, hfr0]) (by decide) hq hm)
      · have hfr0 : ¬ freeR (rr (ix p1)) ≤ 0 := fun z => c_7 (by rw [er_6]; exact (free0 (hi _ hk40)).mp z)
        refine lv_aload_n hx hb dX2_book_33 rfl (lv_at hl 1 rfl) ?_
        refine lv_iload_n hx hb dX2_book_34 rfl (lv_at hl 2 rfl) ?_
        refine lv_iload_n hx hb dX2_book_35 rfl (lv_at hl 3 rfl) ?_
        refine vp_callSi (W.runV (As := [.int p1, .int p2]) (rest := [.ref om]) ⟨hx, hb, hml, hown, hts⟩ (m_X2_at l hq hm hi ht (p1) ((ix p1)) (by omega) e1 (p2) ((ix p2)) (by omega) e2) (cwV 2 hts gX2_book_X2_at rfl rfl rfl (by decide +kernel) ⟨Nat.le_of_ble_eq_true rfl, Nat.le_of_ble_eq_true rfl⟩) (wy_pVR hK hw.1 hq.1 rfl) rfl rfl hl.1 rfl (lv_room (Nat.le_of_ble_eq_true rfl)) dX2_book_36 ⟨Nat.le_of_ble_eq_true rfl, Nat.le_of_ble_eq_true rfl⟩) (fun r_10 er_10 => ?_)
        refine lv_if_eq (tgt := 46) hx hb dX2_book_39 (by decide) (fun c_11 => ?_) (fun c_11 => ?_)
        · have hst0 : (rbk (rr (ix p1)) (ix p2) || rsd (rr (ix p1)) (ix p2)) = false := (stN0 hfinx).mp ((nI_eq (hsN _ _) (by decide)).mp (by rw [← er_10]; exact c_11))
          refine lv_iconst (v := 0) hx hb dX2_book_46 (by decide) ?_
          refine wy_call (va_runV (As := [.int 0]) (rest := []) ⟨hx, hb, hml, hown, hts⟩ (m_X2_fails l hq (0)) (cwV 1 hts gX2_book_X2_fails rfl rfl rfl (by decide +kernel) ⟨Nat.le_of_ble_eq_true rfl, Nat.le_of_ble_eq_true rfl⟩) (wy_pVW hK hw hq.1 rfl) rfl rfl hl.1 rfl (lv_room (Nat.le_of_ble_eq_true rfl)) dX2_book_47 ⟨Nat.le_of_ble_eq_true rfl, Nat.le_of_ble_eq_true rfl⟩) hw hA (fun rw_12 Lw_12 fw_12 H locs hpost hw => ?_)
          obtain ⟨er_12, eL_12, hq⟩ := hpost
          subst er_12
          obtain rfl := eL_12.symm
          rw [show bI (decide ((0 : Int32) < 0)) = 0 from rfl]
          refine lv_if_eq (tgt := 55) hx hb dX2_book_50 (by decide) (fun c_13 => ?_) (fun c_13 => ?_)
          · have bc_13 : (false) = false := bI_0 (rfl.symm.trans c_13)
            refine lv_aload_n hx hb dX2_book_55 rfl (lv_at hl 1 rfl) ?_
            refine wy_get (ci := 3) (v := .ref (ma 5)) (C := RX2) (T := TX2) (N := 15) hx hb hts hinX2 hown hK hw.1 hq.1 rfl 8 (by decide) (hts (.fieldLink RX2 33 "WheelpayModel" "state" "[I") (by decide +kernel)) (fun _ h9 => h9) rfl dX2_book_56 ?_
            refine lv_bipush (v := 10) hx hb dX2_book_59 (by decide) ?_
            refine lv_iload_n hx hb dX2_book_61 rfl (lv_at hl 2 rfl) ?_
            refine lv_imul hx hb dX2_book_62 ?_
            refine lv_topi (fun x_14 ex_14 => ?_)
            have nx_14 : x_14 = nI (10 * (ix p1)) := ex_14.trans ((congr (congrArg (fun u v : Int32 => u * v) (rfl : (10 : Int32) = nI 10)) e1).trans (pk_mul _ _))
            refine lv_iload_n hx hb dX2_book_63 rfl (lv_at hl 3 rfl) ?_
            refine lv_iadd hx hb dX2_book_64 ?_
            refine lv_topi (fun x_15 ex_15 => ?_)
            have nx_15 : x_15 = nI (10 * (ix p1) + (ix p2)) := ex_15.trans ((congr (congrArg (fun u v : Int32 => u + v) nx_14) e2).trans (nI_add _ _))
            refine lv_iconst (v := 1) hx hb dX2_book_65 (by decide) ?_
            refine wy_iast hx hb hK hw hq.2.2.2.2.2.2.1 (10 * (ix p1) + (ix p2)) nx_15 (by omega) (by omega) dX2_book_66 (fun H locs f_16 hs_17 hn_18 hw => ?_)
            have hc_19 := wy_c.ne2 hq.1 hn_18 (hd1 5 (by decide))
            have hc_20 := wy_c.ne2 hq.2.1 hn_18 (hd2 0 5 (by decide) (by decide) (by decide))
            have hc_21 := wy_c.ne2 hq.2.2.1 hn_18 (hd2 1 5 (by decide) (by decide) (by decide))
            have hc_22 := wy_c.ne2 hq.2.2.2.1 hn_18 (hd2 2 5 (by decide) (by decide) (by decide))
            have hc_23 := wy_c.ne2 hq.2.2.2.2.1 hn_18 (hd2 3 5 (by decide) (by decide) (by decide))
            have hc_24 := wy_c.ne2 hq.2.2.2.2.2.1 hn_18 (hd2 4 5 (by decide) (by decide) (by decide))
            have hc_25 := wy_c.ne2 hq.2.2.2.2.2.2.2.1 hn_18 (hd2 6 5 (by decide) (by decide) (by decide))
            have hc_26 := wy_c.ne2 hq.2.2.2.2.2.2.2.2.1 hn_18 (hd2 7 5 (by decide) (by decide) (by decide))
            have hc_27 := wy_c.ne2 hq.2.2.2.2.2.2.2.2.2.1 hn_18 (hd2 8 5 (by decide) (by decide) (by decide))
            have hc_28 := wy_c.ne2 hq.2.2.2.2.2.2.2.2.2.2.1 hn_18 (hd2 9 5 (by decide) (by decide) (by decide))
            obtain ⟨hb0, hs0⟩ : rbk (rr (ix p1)) (ix p2) = false ∧ rsd (rr (ix p1)) (ix p2) = false := by simpa using hst0
            obtain ⟨g5_29, eg5_29⟩ : ∃ z, z = upd g5 (10 * (ix p1) + (ix p2)) 1 := ⟨_, rfl⟩
            have hg5_29 : wy_c L f_16 (ma 5) (.inl (G.2 0, 400, .inl g5_29)) := by rw [eg5_29]; exact hs_17
            have hq : wm_S G L f_16 om ma n km mn wk 0 g0 g1 g2 g3 g4 g5_29 g6 g7 g8 g9 := ⟨hc_19, hc_20, hc_21, hc_22, hc_23, hc_24, hg5_29, hc_25, hc_26, hc_27, hc_28, hd1, hd2, (by omega), (by omega)⟩
            have hm : wm_r po (va_up rr (ix p1) (vBook (rr (ix p1)) (ix p2))) g0 g1 g2 g3 g4 g5_29 g6 g7 g8 g9 := by rw [eg5_29]; exact wm_book hm hk40 hr10 hfinx
            have hi : ∀ j, j < 40 → wi (t + 1) ((va_up rr (ix p1) (vBook (rr (ix p1)) (ix p2))) j) := wi_all hi (wi_book (hi _ hk40) hr10 hfinx hs0 hfr0)
            have ht := ht1
            have hfinx : rfi ((va_up rr (ix p1) (vBook (rr (ix p1)) (ix p2))) (ix p1)) = false := by rw [va_up_self]; exact hfinx
            refine lv_aload_n hx hb dX2_book_67 rfl (lv_at hl 1 rfl) ?_
            refine lv_iload_n hx hb dX2_book_68 rfl (lv_at hl 2 rfl) ?_
            refine vp_callSi (W.runV (As := [.int p1]) (rest := []) ⟨hx, hb, hml, hown, hts⟩ (m_X2_free l hq hm hi ht (p1) ((ix p1)) (by omega) e1 hfinx) (cwV 1 hts gX2_book_X2_free rfl rfl rfl (by decide +kernel) ⟨Nat.le_of_ble_eq_true rfl, Nat.le_of_ble_eq_true rfl⟩) (wy_pVR hK hw.1 hq.1 rfl) rfl rfl hl.1 rfl (lv_room (Nat.le_of_ble_eq_true rfl)) dX2_book_69 ⟨Nat.le_of_ble_eq_true rfl, Nat.le_of_ble_eq_true rfl⟩) (fun r_30 er_30 => ?_)
            exact wy_iW hx hb hr hlocks dX2_book_72 hw (Nat.le_of_ble_eq_true rfl) (Nat.le_of_ble_eq_true rfl) (wm_ok (by simp [rdC, bkB, Bool.or_assoc, bc_2, bc_3, hok1, hok2, hfr0, hst0]) (by rw [er_30, va_up_self]) hq hm)
          · exact absurd rfl c_13
        · have hst0 : (rbk (rr (ix p1)) (ix p2) || rsd (rr (ix p1)) (ix p2)) = true := (by
            cases h : (rbk (rr (ix p1)) (ix p2) || rsd (rr (ix p1)) (ix p2)) with
            | true => rfl
            | false => exact absurd (by rw [er_10, (stN0 hfinx).mpr h]; rfl) c_11)
          refine lv_iconst (v := 2) hx hb dX2_book_42 (by decide) ?_
          refine lv_goto (tgt := 47) hx hb dX2_book_43 (by decide) ?_
          refine wy_call (va_runV (As := [.int 2]) (rest := []) ⟨hx, hb, hml, hown, hts⟩ (m_X2_fails l hq (2)) (cwV 1 hts gX2_book_X2_fails rfl rfl rfl (by decide +kernel) ⟨Nat.le_of_ble_eq_true rfl, Nat.le_of_ble_eq_true rfl⟩) (wy_pVW hK hw hq.1 rfl) rfl rfl hl.1 rfl (lv_room (Nat.le_of_ble_eq_true rfl)) dX2_book_47 ⟨Nat.le_of_ble_eq_true rfl, Nat.le_of_ble_eq_true rfl⟩) hw hA (fun rw_31 Lw_31 fw_31 H locs hpost hw => ?_)
          obtain ⟨er_31, eL_31, hq⟩ := hpost
          subst er_31
          obtain rfl := eL_31.symm
          rw [show bI (decide ((0 : Int32) < 2)) = 1 from rfl]
          refine lv_if_eq (tgt := 55) hx hb dX2_book_50 (by decide) (fun c_32 => ?_) (fun c_32 => ?_)
          · exact absurd c_32 (by decide)
          · have bc_32 : (true) = true := bI_1 (fun z => c_32 (rfl.trans z))
            refine lv_iconst (v := 0) hx hb dX2_book_53 (by decide) ?_
            exact wy_iW hx hb hr hlocks dX2_book_54 hw (Nat.le_of_ble_eq_true rfl) (Nat.le_of_ble_eq_true rfl) (wm_no (by simp [rdC, bkB, Bool.or_assoc, bc_2, bc_3, bc_32, hok1, hok2, hfr0, hst0]) (by decide) hq hm)
  · have bc_2 : (okN n p1 && okN 10 p2) = false := bI_0 (er_1.symm.trans c_2)
    refine lv_iconst (v := 1) hx hb dX2_book_12 (by decide) ?_
    refine lv_goto (tgt := 47) hx hb dX2_book_13 (by decide) ?_
    refine wy_call (va_runV (As := [.int 1]) (rest := []) ⟨hx, hb, hml, hown, hts⟩ (m_X2_fails l hq (1)) (cwV 1 hts gX2_book_X2_fails rfl rfl rfl (by decide +kernel) ⟨Nat.le_of_ble_eq_true rfl, Nat.le_of_ble_eq_true rfl⟩) (wy_pVW hK hw hq.1 rfl) rfl rfl hl.1 rfl (lv_room (Nat.le_of_ble_eq_true rfl)) dX2_book_47 ⟨Nat.le_of_ble_eq_true rfl, Nat.le_of_ble_eq_true rfl⟩) hw hA (fun rw_33 Lw_33 fw_33 H locs hpost hw => ?_)
    obtain ⟨er_33, eL_33, hq⟩ := hpost
    subst er_33
    obtain rfl := eL_33.symm
    rw [show bI (decide ((0 : Int32) < 1)) = 1 from rfl]
    refine lv_if_eq (tgt := 55) hx hb dX2_book_50 (by decide) (fun c_34 => ?_) (fun c_34 => ?_)
    · exact absurd c_34 (by decide)
    · have bc_34 : (true) = true := bI_1 (fun z => c_34 (rfl.trans z))
      refine lv_iconst (v := 0) hx hb dX2_book_53 (by decide) ?_
      exact wy_iW hx hb hr hlocks dX2_book_54 hw (Nat.le_of_ble_eq_true rfl) (Nat.le_of_ble_eq_true rfl) (wm_no (by simp [rdC, bkB, Bool.or_assoc, bc_2, bc_34]) (by decide) hq hm)
set_option maxHeartbeats 4000000 in
set_option maxRecDepth 100000 in
theorem m_X2_cancel (l : Launch) {G : wy_G} {L : List Nat} {f : Nat → va_E} {sz : Nat} {om : Nat} {ma : Nat → Nat} {n : Nat} {km mn : Int32} {wk : Nat} {th : Int32} {po : Nat → Int32} {rr : Nat → wr_V} {g0 g1 g2 g3 g4 g5 g6 g7 g8 g9 : Nat → Int32} {t : Nat} (hq : wm_S G L f om ma n km mn wk th g0 g1 g2 g3 g4 g5 g6 g7 g8 g9) (hm : wm_r po rr g0 g1 g2 g3 g4 g5 g6 g7 g8 g9) (hi : ∀ k, k < 40 → wi t (rr k)) (ht1 : t + 1 ≤ 512) (p1 p2 : Int32) : Met l yX2_cancel wsX2_cancel ({ frames := 3, cells := 0, slots := 0, locals := 65 } : Room) (va_Pc [.ref om, .int p1, .int p2] (wy_W G L f sz)) (wy_Q G (wm_p G L om ma (if rdC n p1 p2 (cnB (rr (ix p1)) (ix p2)) = 0 then n else n) (if rdC n p1 p2 (cnB (rr (ix p1)) (ix p2)) = 0 then km else km) (if rdC n p1 p2 (cnB (rr (ix p1)) (ix p2)) = 0 then mn else mn) (if rdC n p1 p2 (cnB (rr (ix p1)) (ix p2)) = 0 then wk else wk) (if rdC n p1 p2 (cnB (rr (ix p1)) (ix p2)) = 0 then po else po) (if rdC n p1 p2 (cnB (rr (ix p1)) (ix p2)) = 0 then va_up rr (ix p1) (vDrop (rr (ix p1)) (ix p2)) else rr) (rdC n p1 p2 (cnB (rr (ix p1)) (ix p2))) (some (.int (if rdC n p1 p2 (cnB (rr (ix p1)) (ix p2)) = 0 then feeR (rr (ix p1)) else 0)))) (wy_A L sz)) 0 0 (wy_A L sz) := by
  refine Met.ofW (cc := cX2_cancel) (maxL := 5) (ret := (some .int)) (by decide) rfl ?_
  intro p e s m args below meth c s₁ B hml hv
  obtain ⟨rfl, hv⟩ := hv
  obtain ⟨hw, hK, hA⟩ := wy_start hv
  have hsz := hv.1
  subst hsz
  have hx := B.exec
  have hb := B.bytes
  have hr := B.returns
  have hts := atoms_spec (ws := wsX2_cancel) B.pre
  have hown : s.vm.findClass RX2 = some m.cls := findClass_of_methodNamed B.named
  have hlocks := B.notSynchronized
  have hinX2 : ∀ w ∈ wsX20, w ∈ wsX2_cancel := by decide +kernel
  have hn : n ≤ 40 := hq.2.2.2.2.2.2.2.2.2.2.2.2.2.1
  have hwk : wk ≤ 20 := hq.2.2.2.2.2.2.2.2.2.2.2.2.2.2
  have hsN : ∀ v r, stN v r < 2 ^ 31 := fun v r => by unfold stN; split <;> (try split) <;> (try split) <;> decide
  have hdN : ∀ v r, dpN v r < 2 ^ 31 := fun v r => by unfold dpN; split <;> (try split) <;> (try split) <;> decide
  have hd1 := hq.2.2.2.2.2.2.2.2.2.2.2.1
  have hd2 := hq.2.2.2.2.2.2.2.2.2.2.2.2.1
  have ht : t ≤ 512 := by omega
  have hl := lv_entry ([.ref om, .int p1, .int p2]) (n := 5) (Nat.le_of_ble_eq_true rfl)
  rw [lg_entry_eq]
  generalize (lg_sl ([.ref om, .int p1, .int p2]) ++ List.replicate (5 - (lg_sl ([.ref om, .int p1, .int p2])).length) Slot.unset).toArray = ls at hl ⊢
  have hl : lv_has ls 5 [(0, .ref om), (1, .int p1), (2, .int p2)] := hl
  refine lv_aload_n hx hb dX2_cancel_0 rfl (lv_at hl 0 rfl) ?_
  refine lv_iload_n hx hb dX2_cancel_1 rfl (lv_at hl 1 rfl) ?_
  refine lv_iload_n hx hb dX2_cancel_2 rfl (lv_at hl 2 rfl) ?_
  refine vp_callSi (W.runV (As := [.int p1, .int p2]) (rest := []) ⟨hx, hb, hml, hown, hts⟩ (m_X2_isRider l hq hm hi ht (p1) (p2)) (cwV 2 hts gX2_cancel_X2_isRider rfl rfl rfl (by decide +kernel) ⟨Nat.le_of_ble_eq_true rfl, Nat.le_of_ble_eq_true rfl⟩) (wy_pVR hK hw.1 hq.1 rfl) rfl rfl hl.1 rfl (lv_room (Nat.le_of_ble_eq_true rfl)) dX2_cancel_3 ⟨Nat.le_of_ble_eq_true rfl, Nat.le_of_ble_eq_true rfl⟩) (fun r_1 er_1 => ?_)
  refine lv_istore_n (lv' := [(3, .int r_1), (0, .ref om), (1, .int p1), (2, .int p2)]) hx hb dX2_cancel_6 rfl hl (by decide) rfl (fun ls hl => ?_)
  refine lv_aload_n hx hb dX2_cancel_7 rfl (lv_at hl 1 rfl) ?_
  refine lv_iload_n hx hb dX2_cancel_8 rfl (lv_at hl 0 rfl) ?_
  refine lv_if_ne (tgt := 16) hx hb dX2_cancel_9 (by decide) (fun c_2 => ?_) (fun c_2 => ?_)
  · have bc_2 : (okN n p1 && okN 10 p2) = true := bI_1 (fun z => c_2 (er_1.trans z))
    obtain ⟨hok1, hok2⟩ : okN n p1 = true ∧ okN 10 p2 = true := by simpa using bc_2
    obtain ⟨hk1, e1⟩ := okN_ix hok1 (by omega)
    obtain ⟨hr10, e2⟩ := okN_ix hok2 (by omega)
    have hk40 : ix p1 < 40 := by omega
    refine lv_aload_n hx hb dX2_cancel_16 rfl (lv_at hl 1 rfl) ?_
    refine wy_get (ci := 3) (v := .ref (ma 3)) (C := RX2) (T := TX2) (N := 15) hx hb hts hinX2 hown hK hw.1 hq.1 rfl 6 (by decide) (hts (.fieldLink RX2 26 "WheelpayModel" "isDone" "[Z") (by decide +kernel)) (fun _ h9 => h9) rfl dX2_cancel_17 ?_
    refine lv_iload_n hx hb dX2_cancel_20 rfl (lv_at hl 2 rfl) ?_
    refine wy_zald hx hb hK hw.1 hq.2.2.2.2.1 ((ix p1)) e1 (by omega) (by omega) dX2_cancel_21 ?_
    rw [show g3 ((ix p1)) = bI (rfi (rr (ix p1))) from (hm.1 ((ix p1)) (by omega)).2.2.2.1]
    refine lv_if_ne (tgt := 35) hx hb dX2_cancel_22 (by decide) (fun c_3 => ?_) (fun c_3 => ?_)
    · have bc_3 : (rfi (rr (ix p1))) = true := bI_1 (fun z => c_3 (rfl.trans z))
      refine lv_iconst (v := 2) hx hb dX2_cancel_35 (by decide) ?_
      refine lv_goto (tgt := 40) hx hb dX2_cancel_36 (by decide) ?_
      refine wy_call (va_runV (As := [.int 2]) (rest := []) ⟨hx, hb, hml, hown, hts⟩ (m_X2_fails l hq (2)) (cwV 1 hts gX2_cancel_X2_fails rfl rfl rfl (by decide +kernel) ⟨Nat.le_of_ble_eq_true rfl, Nat.le_of_ble_eq_true rfl⟩) (wy_pVW hK hw hq.1 rfl) rfl rfl hl.1 rfl (lv_room (Nat.le_of_ble_eq_true rfl)) dX2_cancel_40 ⟨Nat.le_of_ble_eq_true rfl, Nat.le_of_ble_eq_true rfl⟩) hw hA (fun rw_4 Lw_4 fw_4 H locs hpost hw => ?_)
      obtain ⟨er_4, eL_4, hq⟩ := hpost
      subst er_4
      obtain rfl := eL_4.symm
      rw [show bI (decide ((0 : Int32) < 2)) = 1 from rfl]
      refine lv_if_eq (tgt := 48) hx hb dX2_cancel_43 (by decide) (fun c_5 => ?_) (fun c_5 => ?_)
      · exact absurd c_5 (by decide)
      · have bc_5 : (true) = true := bI_1 (fun z => c_5 (rfl.trans z))
        refine lv_iconst (v := 0) hx hb dX2_cancel_46 (by decide) ?_
        exact wy_iW hx hb hr hlocks dX2_cancel_47 hw (Nat.le_of_ble_eq_true rfl) (Nat.le_of_ble_eq_true rfl) (wm_no (by simp [rdC, cnB, bc_2, bc_3, bc_5, hok1, hok2]) (by decide) hq hm)
    · have bc_3 : (rfi (rr (ix p1))) = false := bI_0 (rfl.symm.trans c_3)
      have hfinx : rfi (rr (ix p1)) = false := bc_3
      refine lv_aload_n hx hb dX2_cancel_25 rfl (lv_at hl 1 rfl) ?_
      refine lv_iload_n hx hb dX2_cancel_26 rfl (lv_at hl 2 rfl) ?_
      refine lv_iload_n hx hb dX2_cancel_27 rfl (lv_at hl 3 rfl) ?_
      refine vp_callSi (W.runV (As := [.int p1, .int p2]) (rest := [.ref om]) ⟨hx, hb, hml, hown, hts⟩ (m_X2_at l hq hm hi ht (p1) ((ix p1)) (by omega) e1 (p2) ((ix p2)) (by omega) e2) (cwV 2 hts gX2_cancel_X2_at rfl rfl rfl (by decide +kernel) ⟨Nat.le_of_ble_eq_true rfl, Nat.le_of_ble_eq_true rfl⟩) (wy_pVR hK hw.1 hq.1 rfl) rfl rfl hl.1 rfl (lv_room (Nat.le_of_ble_eq_true rfl)) dX2_cancel_28 ⟨Nat.le_of_ble_eq_true rfl, Nat.le_of_ble_eq_true rfl⟩) (fun r_6 er_6 => ?_)
      refine lv_iconst (v := 1) hx hb dX2_cancel_31 (by decide) ?_
      refine lv_icmp_eq (tgt := 39) hx hb dX2_cancel_32 (by decide) (fun c_7 => ?_) (fun c_7 => ?_)
      · have nc_7 : stN (rr (ix p1)) (ix p2) = 1 := (wy_eq er_6 (rfl : (1 : Int32) = nI 1) (by first | omega | exact hsN _ _ | exact hdN _ _ | exact Nat.lt_of_le_of_lt (cb_le _ _) (by omega)) (by decide)).mp c_7
        have hst1 : rbk (rr (ix p1)) (ix p2) = true := (stN1 hfinx).mp nc_7
        refine lv_iconst (v := 0) hx hb dX2_cancel_39 (by decide) ?_
        refine wy_call (va_runV (As := [.int 0]) (rest := []) ⟨hx, hb, hml, hown, hts⟩ (m_X2_fails l hq (0)) (cwV 1 hts gX2_cancel_X2_fails rfl rfl rfl (by decide +kernel) ⟨Nat.le_of_ble_eq_true rfl, Nat.le_of_ble_eq_true rfl⟩) (wy_pVW hK hw hq.1 rfl) rfl rfl hl.1 rfl (lv_room (Nat.le_of_ble_eq_true rfl)) dX2_cancel_40 ⟨Nat.le_of_ble_eq_true rfl, Nat.le_of_ble_eq_true rfl⟩) hw hA (fun rw_8 Lw_8 fw_8 H locs hpost hw => ?_)
        obtain ⟨er_8, eL_8, hq⟩ := hpost
        subst er_8
        obtain rfl := eL_8.symm
        rw [show bI (decide ((0 : Int32) < 0)) = 0 from rfl]
        refine lv_if_eq (tgt := 48) hx hb dX2_cancel_43 (by decide) (fun c_9 => ?_) (fun c_9 => ?_)
        · have bc_9 : (false) = false := bI_0 (rfl.symm.trans c_9)
          refine lv_aload_n hx hb dX2_cancel_48 rfl (lv_at hl 1 rfl) ?_
          refine wy_get (ci := 3) (v := .ref (ma 4)) (C := RX2) (T := TX2) (N := 15) hx hb hts hinX2 hown hK hw.1 hq.1 rfl 7 (by decide) (hts (.fieldLink RX2 30 "WheelpayModel" "hasDriven" "[Z") (by decide +kernel)) (fun _ h9 => h9) rfl dX2_cancel_49 ?_
          refine lv_iload_n hx hb dX2_cancel_52 rfl (lv_at hl 2 rfl) ?_
          refine wy_zald hx hb hK hw.1 hq.2.2.2.2.2.1 ((ix p1)) e1 (by omega) (by omega) dX2_cancel_53 ?_
          rw [show g4 ((ix p1)) = bI (hdv (rr (ix p1))) from (hm.1 ((ix p1)) (by omega)).2.2.2.2.1]
          refine lv_if_eq (tgt := 63) hx hb dX2_cancel_54 (by decide) (fun c_10 => ?_) (fun c_10 => ?_)
          · have bc_10 : (hdv (rr (ix p1))) = false := bI_0 (rfl.symm.trans c_10)
            refine lv_iconst (v := 0) hx hb dX2_cancel_63 (by decide) ?_
            have hfee : (0 : Int32) = feeR (rr (ix p1)) := by have hb9 := bc_10; simp [hdv] at hb9; simp [feeR, hb9]
            refine lv_topi (fun x_f ex_f => ?_)
            obtain rfl : x_f = feeR (rr (ix p1)) := ex_f.trans hfee
            refine lv_istore (lv' := [(4, .int (feeR (rr (ix p1)))), (3, .int r_1), (0, .ref om), (1, .int p1), (2, .int p2)]) hx hb dX2_cancel_64 hl (by decide) rfl (fun ls hl => ?_)
            refine lv_aload_n hx hb dX2_cancel_66 rfl (lv_at hl 2 rfl) ?_
            refine wy_get (ci := 3) (v := .ref (ma 5)) (C := RX2) (T := TX2) (N := 15) hx hb hts hinX2 hown hK hw.1 hq.1 rfl 8 (by decide) (hts (.fieldLink RX2 33 "WheelpayModel" "state" "[I") (by decide +kernel)) (fun _ h9 => h9) rfl dX2_cancel_67 ?_
            refine lv_bipush (v := 10) hx hb dX2_cancel_70 (by decide) ?_
            refine lv_iload_n hx hb dX2_cancel_72 rfl (lv_at hl 3 rfl) ?_
            refine lv_imul hx hb dX2_cancel_73 ?_
            refine lv_topi (fun x_11 ex_11 => ?_)
            have nx_11 : x_11 = nI (10 * (ix p1)) := ex_11.trans ((congr (congrArg (fun u v : Int32 => u * v) (rfl : (10 : Int32) = nI 10)) e1).trans (pk_mul _ _))
            refine lv_iload_n hx hb dX2_cancel_74 rfl (lv_at hl 4 rfl) ?_
            refine lv_iadd hx hb dX2_cancel_75 ?_
            refine lv_topi (fun x_12 ex_12 => ?_)
            have nx_12 : x_12 = nI (10 * (ix p1) + (ix p2)) := ex_12.trans ((congr (congrArg (fun u v : Int32 => u + v) nx_11) e2).trans (nI_add _ _))
            refine lv_iconst (v := 0) hx hb dX2_cancel_76 (by decide) ?_
            refine wy_iast hx hb hK hw hq.2.2.2.2.2.2.1 (10 * (ix p1) + (ix p2)) nx_12 (by omega) (by omega) dX2_cancel_77 (fun H locs f_13 hs_14 hn_15 hw => ?_)
            have hc_16 := wy_c.ne2 hq.1 hn_15 (hd1 5 (by decide))
            have hc_17 := wy_c.ne2 hq.2.1 hn_15 (hd2 0 5 (by decide) (by decide) (by decide))
            have hc_18 := wy_c.ne2 hq.2.2.1 hn_15 (hd2 1 5 (by decide) (by decide) (by decide))
            have hc_19 := wy_c.ne2 hq.2.2.2.1 hn_15 (hd2 2 5 (by decide) (by decide) (by decide))
            have hc_20 := wy_c.ne2 hq.2.2.2.2.1 hn_15 (hd2 3 5 (by decide) (by decide) (by decide))
            have hc_21 := wy_c.ne2 hq.2.2.2.2.2.1 hn_15 (hd2 4 5 (by decide) (by decide) (by decide))
            have hc_22 := wy_c.ne2 hq.2.2.2.2.2.2.2.1 hn_15 (hd2 6 5 (by decide) (by decide) (by decide))
            have hc_23 := wy_c.ne2 hq.2.2.2.2.2.2.2.2.1 hn_15 (hd2 7 5 (by decide) (by decide) (by decide))
            have hc_24 := wy_c.ne2 hq.2.2.2.2.2.2.2.2.2.1 hn_15 (hd2 8 5 (by decide) (by decide) (by decide))
            have hc_25 := wy_c.ne2 hq.2.2.2.2.2.2.2.2.2.2.1 hn_15 (hd2 9 5 (by decide) (by decide) (by decide))
            refine lv_aload_n hx hb dX2_cancel_78 rfl (lv_at hl 2 rfl) ?_
            refine wy_get (ci := 3) (v := .ref (ma 6)) (C := RX2) (T := TX2) (N := 15) hx hb hts hinX2 hown hK hw.1 hc_16 rfl 9 (by decide) (hts (.fieldLink RX2 36 "WheelpayModel" "charge" "[I") (by decide +kernel)) (fun _ h9 => h9) rfl dX2_cancel_79 ?_
            refine lv_bipush (v := 10) hx hb dX2_cancel_82 (by decide) ?_
            refine lv_iload_n hx hb dX2_cancel_84 rfl (lv_at hl 3 rfl) ?_
            refine lv_imul hx hb dX2_cancel_85 ?_
            refine lv_topi (fun x_26 ex_26 => ?_)
            have nx_26 : x_26 = nI (10 * (ix p1)) := ex_26.trans ((congr (congrArg (fun u v : Int32 => u * v) (rfl : (10 : Int32) = nI 10)) e1).trans (pk_mul _ _))
            refine lv_iload_n hx hb dX2_cancel_86 rfl (lv_at hl 4 rfl) ?_
            refine lv_iadd hx hb dX2_cancel_87 ?_
            refine lv_topi (fun x_27 ex_27 => ?_)
            have nx_27 : x_27 = nI (10 * (ix p1) + (ix p2)) := ex_27.trans ((congr (congrArg (fun u v : Int32 => u + v) nx_26) e2).trans (nI_add _ _))
            refine lv_dup2_11 hx hb dX2_cancel_88 rfl rfl ?_
            refine wy_iald hx hb hK hw.1 hc_22 (10 * (ix p1) + (ix p2)) nx_27 (by omega) (by omega) dX2_cancel_89 ?_
            rw [show g6 (10 * (ix p1) + (ix p2)) = rch (rr (ix p1)) ((ix p2)) from ((hm.1 (ix p1) (by omega)).2.2.2.2.2 ((ix p2)) (by omega)).2.1]
            refine lv_iload hx hb dX2_cancel_90 (lv_at hl 0 rfl) ?_
            refine lv_iadd hx hb dX2_cancel_92 ?_
            refine lv_topi (fun x_28 ex_28 => ?_)
            obtain rfl : x_28 = rch (rr (ix p1)) (ix p2) + feeR (rr (ix p1)) := by simp only [er_1, er_6, ex_11, ex_12, ex_26, ex_27, ex_28]
            refine wy_iast hx hb hK hw hc_22 (10 * (ix p1) + (ix p2)) nx_27 (by omega) (by omega) dX2_cancel_93 (fun H locs f_29 hs_30 hn_31 hw => ?_)
            have hc_32 := wy_c.ne2 hc_16 hn_31 (hd1 6 (by decide))
            have hc_33 := wy_c.ne2 hc_17 hn_31 (hd2 0 6 (by decide) (by decide) (by decide))
            have hc_34 := wy_c.ne2 hc_18 hn_31 (hd2 1 6 (by decide) (by decide) (by decide))
            have hc_35 := wy_c.ne2 hc_19 hn_31 (hd2 2 6 (by decide) (by decide) (by decide))
            have hc_36 := wy_c.ne2 hc_20 hn_31 (hd2 3 6 (by decide) (by decide) (by decide))
            have hc_37 := wy_c.ne2 hc_21 hn_31 (hd2 4 6 (by decide) (by decide) (by decide))
            have hc_38 := wy_c.ne2 hs_14 hn_31 (hd2 5 6 (by decide) (by decide) (by decide))
            have hc_39 := wy_c.ne2 hc_23 hn_31 (hd2 7 6 (by decide) (by decide) (by decide))
            have hc_40 := wy_c.ne2 hc_24 hn_31 (hd2 8 6 (by decide) (by decide) (by decide))
            have hc_41 := wy_c.ne2 hc_25 hn_31 (hd2 9 6 (by decide) (by decide) (by decide))
            refine lv_iload hx hb dX2_cancel_94 (lv_at hl 0 rfl) ?_
            obtain ⟨g5_42, eg5_42⟩ : ∃ z, z = upd g5 (10 * (ix p1) + (ix p2)) 0 := ⟨_, rfl⟩
            have hg5_42 : wy_c L f_29 (ma 5) (.inl (G.2 0, 400, .inl g5_42)) := by rw [eg5_42]; exact hc_38
            obtain ⟨g6_43, eg6_43⟩ : ∃ z, z = upd g6 (10 * (ix p1) + (ix p2)) (rch (rr (ix p1)) (ix p2) + feeR (rr (ix p1))) := ⟨_, rfl⟩
            have hg6_43 : wy_c L f_29 (ma 6) (.inl (G.2 0, 400, .inl g6_43)) := by rw [eg6_43]; exact hs_30
            have hq : wm_S G L f_29 om ma n km mn wk 0 g0 g1 g2 g3 g4 g5_42 g6_43 g7 g8 g9 := ⟨hc_32, hc_33, hc_34, hc_35, hc_36, hc_37, hg5_42, hg6_43, hc_39, hc_40, hc_41, hd1, hd2, (by omega), (by omega)⟩
            have hm : wm_r po (va_up rr (ix p1) (vDrop (rr (ix p1)) (ix p2))) g0 g1 g2 g3 g4 g5_42 g6_43 g7 g8 g9 := by rw [eg5_42, eg6_43]; exact wm_drop hm (hi _ hk40) hk40 hr10 hst1
            exact wy_iW hx hb hr hlocks dX2_cancel_96 hw (Nat.le_of_ble_eq_true rfl) (Nat.le_of_ble_eq_true rfl) (wm_ok (by simp [rdC, cnB, bc_2, bc_3, bc_10, hok1, hok2, hst1]) rfl hq hm)
          · have bc_10 : (hdv (rr (ix p1))) = true := bI_1 (fun z => c_10 (rfl.trans z))
            refine lv_sipush (v := 250) hx hb dX2_cancel_57 (by decide) ?_
            refine lv_goto (tgt := 64) hx hb dX2_cancel_60 (by decide) ?_
            have hfee : (250 : Int32) = feeR (rr (ix p1)) := by have hb9 := bc_10; simp [hdv] at hb9; simp [feeR, hb9]
            refine lv_topi (fun x_f ex_f => ?_)
            obtain rfl : x_f = feeR (rr (ix p1)) := ex_f.trans hfee
            refine lv_istore (lv' := [(4, .int (feeR (rr (ix p1)))), (3, .int r_1), (0, .ref om), (1, .int p1), (2, .int p2)]) hx hb dX2_cancel_64 hl (by decide) rfl (fun ls hl => ?_)
            refine lv_aload_n hx hb dX2_cancel_66 rfl (lv_at hl 2 rfl) ?_
            refine wy_get (ci := 3) (v := .ref (ma 5)) (C := RX2) (T := TX2) (N := 15) hx hb hts hinX2 hown hK hw.1 hq.1 rfl 8 (by decide) (hts (.fieldLink RX2 33 "WheelpayModel" "state" "[I") (by decide +kernel)) (fun _ h9 => h9) rfl dX2_cancel_67 ?_
            refine lv_bipush (v := 10) hx hb dX2_cancel_70 (by decide) ?_
            refine lv_iload_n hx hb dX2_cancel_72 rfl (lv_at hl 3 rfl) ?_
            refine lv_imul hx hb dX2_cancel_73 ?_
            refine lv_topi (fun x_44 ex_44 => ?_)
            have nx_44 : x_44 = nI (10 * (ix p1)) := ex_44.trans ((congr (congrArg (fun u v : Int32 => u * v) (rfl : (10 : Int32) = nI 10)) e1).trans (pk_mul _ _))
            refine lv_iload_n hx hb dX2_cancel_74 rfl (lv_at hl 4 rfl) ?_
            refine lv_iadd hx hb dX2_cancel_75 ?_
            refine lv_topi (fun x_45 ex_45 => ?_)
            have nx_45 : x_45 = nI (10 * (ix p1) + (ix p2)) := ex_45.trans ((congr (congrArg (fun u v : Int32 => u + v) nx_44) e2).trans (nI_add _ _))
            refine lv_iconst (v := 0) hx hb dX2_cancel_76 (by decide) ?_
            refine wy_iast hx hb hK hw hq.2.2.2.2.2.2.1 (10 * (ix p1) + (ix p2)) nx_45 (by omega) (by omega) dX2_cancel_77 (fun H locs f_46 hs_47 hn_48 hw => ?_)
            have hc_49 := wy_c.ne2 hq.1 hn_48 (hd1 5 (by decide))
            have hc_50 := wy_c.ne2 hq.2.1 hn_48 (hd2 0 5 (by decide) (by decide) (by decide))
            have hc_51 := wy_c.ne2 hq.2.2.1 hn_48 (hd2 1 5 (by decide) (by decide) (by decide))
            have hc_52 := wy_c.ne2 hq.2.2.2.1 hn_48 (hd2 2 5 (by decide) (by decide) (by decide))
            have hc_53 := wy_c.ne2 hq.2.2.2.2.1 hn_48 (hd2 3 5 (by decide) (by decide) (by decide))
            have hc_54 := wy_c.ne2 hq.2.2.2.2.2.1 hn_48 (hd2 4 5 (by decide) (by decide) (by decide))
            have hc_55 := wy_c.ne2 hq.2.2.2.2.2.2.2.1 hn_48 (hd2 6 5 (by decide) (by decide) (by decide))
            have hc_56 := wy_c.ne2 hq.2.2.2.2.2.2.2.2.1 hn_48 (hd2 7 5 (by decide) (by decide) (by decide))
            have hc_57 := wy_c.ne2 hq.2.2.2.2.2.2.2.2.2.1 hn_48 (hd2 8 5 (by decide) (by decide) (by decide))
            have hc_58 := wy_c.ne2 hq.2.2.2.2.2.2.2.2.2.2.1 hn_48 (hd2 9 5 (by decide) (by decide) (by decide))
            refine lv_aload_n hx hb dX2_cancel_78 rfl (lv_at hl 2 rfl) ?_
            refine wy_get (ci := 3) (v := .ref (ma 6)) (C := RX2) (T := TX2) (N := 15) hx hb hts hinX2 hown hK hw.1 hc_49 rfl 9 (by decide) (hts (.fieldLink RX2 36 "WheelpayModel" "charge" "[I") (by decide +kernel)) (fun _ h9 => h9) rfl dX2_cancel_79 ?_
            refine lv_bipush (v := 10) hx hb dX2_cancel_82 (by decide) ?_
            refine lv_iload_n hx hb dX2_cancel_84 rfl (lv_at hl 3 rfl) ?_
            refine lv_imul hx hb dX2_cancel_85 ?_
            refine lv_topi (fun x_59 ex_59 => ?_)
            have nx_59 : x_59 = nI (10 * (ix p1)) := ex_59.trans ((congr (congrArg (fun u v : Int32 => u * v) (rfl : (10 : Int32) = nI 10)) e1).trans (pk_mul _ _))
            refine lv_iload_n hx hb dX2_cancel_86 rfl (lv_at hl 4 rfl) ?_
            refine lv_iadd hx hb dX2_cancel_87 ?_
            refine lv_topi (fun x_60 ex_60 => ?_)
            have nx_60 : x_60 = nI (10 * (ix p1) + (ix p2)) := ex_60.trans ((congr (congrArg (fun u v : Int32 => u + v) nx_59) e2).trans (nI_add _ _))
            refine lv_dup2_11 hx hb dX2_cancel_88 rfl rfl ?_
            refine wy_iald hx hb hK hw.1 hc_55 (10 * (ix p1) + (ix p2)) nx_60 (by omega) (by omega) dX2_cancel_89 ?_
            rw [show g6 (10 * (ix p1) + (ix p2)) = rch (rr (ix p1)) ((ix p2)) from ((hm.1 (ix p1) (by omega)).2.2.2.2.2 ((ix p2)) (by omega)).2.1]
            refine lv_iload hx hb dX2_cancel_90 (lv_at hl 0 rfl) ?_
            refine lv_iadd hx hb dX2_cancel_92 ?_
            refine lv_topi (fun x_61 ex_61 => ?_)
            obtain rfl : x_61 = rch (rr (ix p1)) (ix p2) + feeR (rr (ix p1)) := by simp only [er_1, er_6, ex_44, ex_45, ex_59, ex_60, ex_61]
            refine wy_iast hx hb hK hw hc_55 (10 * (ix p1) + (ix p2)) nx_60 (by omega) (by omega) dX2_cancel_93 (fun H locs f_62 hs_63 hn_64 hw => ?_)
            have hc_65 := wy_c.ne2 hc_49 hn_64 (hd1 6 (by decide))
            have hc_66 := wy_c.ne2 hc_50 hn_64 (hd2 0 6 (by decide) (by decide) (by decide))
            have hc_67 := wy_c.ne2 hc_51 hn_64 (hd2 1 6 (by decide) (by decide) (by decide))
            have hc_68 := wy_c.ne2 hc_52 hn_64 (hd2 2 6 (by decide) (by decide) (by decide))
            have hc_69 := wy_c.ne2 hc_53 hn_64 (hd2 3 6 (by decide) (by decide) (by decide))
            have hc_70 := wy_c.ne2 hc_54 hn_64 (hd2 4 6 (by decide) (by decide) (by decide))
            have hc_71 := wy_c.ne2 hs_47 hn_64 (hd2 5 6 (by decide) (by decide) (by decide))
            have hc_72 := wy_c.ne2 hc_56 hn_64 (hd2 7 6 (by decide) (by decide) (by decide))
            have hc_73 := wy_c.ne2 hc_57 hn_64 (hd2 8 6 (by decide) (by decide) (by decide))
            have hc_74 := wy_c.ne2 hc_58 hn_64 (hd2 9 6 (by decide) (by decide) (by decide))
            refine lv_iload hx hb dX2_cancel_94 (lv_at hl 0 rfl) ?_
            obtain ⟨g5_75, eg5_75⟩ : ∃ z, z = upd g5 (10 * (ix p1) + (ix p2)) 0 := ⟨_, rfl⟩
            have hg5_75 : wy_c L f_62 (ma 5) (.inl (G.2 0, 400, .inl g5_75)) := by rw [eg5_75]; exact hc_71
            obtain ⟨g6_76, eg6_76⟩ : ∃ z, z = upd g6 (10 * (ix p1) + (ix p2)) (rch (rr (ix p1)) (ix p2) + feeR (rr (ix p1))) := ⟨_, rfl⟩
            have hg6_76 : wy_c L f_62 (ma 6) (.inl (G.2 0, 400, .inl g6_76)) := by rw [eg6_76]; exact hs_63
            have hq : wm_S G L f_62 om ma n km mn wk 0 g0 g1 g2 g3 g4 g5_75 g6_76 g7 g8 g9 := ⟨hc_65, hc_66, hc_67, hc_68, hc_69, hc_70, hg5_75, hg6_76, hc_72, hc_73, hc_74, hd1, hd2, (by omega), (by omega)⟩
            have hm : wm_r po (va_up rr (ix p1) (vDrop (rr (ix p1)) (ix p2))) g0 g1 g2 g3 g4 g5_75 g6_76 g7 g8 g9 := by rw [eg5_75, eg6_76]; exact wm_drop hm (hi _ hk40) hk40 hr10 hst1
            exact wy_iW hx hb hr hlocks dX2_cancel_96 hw (Nat.le_of_ble_eq_true rfl) (Nat.le_of_ble_eq_true rfl) (wm_ok (by simp [rdC, cnB, bc_2, bc_3, bc_10, hok1, hok2, hst1]) rfl hq hm)
        · exact absurd rfl c_9
      · have nc_7 : ¬ (stN (rr (ix p1)) (ix p2) = 1) := fun z => c_7 ((wy_eq er_6 (rfl : (1 : Int32) = nI 1) (by first | omega | exact hsN _ _ | exact hdN _ _ | exact Nat.lt_of_le_of_lt (cb_le _ _) (by omega)) (by decide)).mpr z)
        have hst1 : rbk (rr (ix p1)) (ix p2) = false := (by
          cases h : rbk (rr (ix p1)) (ix p2) with
          | false => rfl
          | true => exact absurd ((stN1 hfinx).mpr h) nc_7)
        refine lv_iconst (v := 2) hx hb dX2_cancel_35 (by decide) ?_
        refine lv_goto (tgt := 40) hx hb dX2_cancel_36 (by decide) ?_
        refine wy_call (va_runV (As := [.int 2]) (rest := []) ⟨hx, hb, hml, hown, hts⟩ (m_X2_fails l hq (2)) (cwV 1 hts gX2_cancel_X2_fails rfl rfl rfl (by decide +kernel) ⟨Nat.le_of_ble_eq_true rfl, Nat.le_of_ble_eq_true rfl⟩) (wy_pVW hK hw hq.1 rfl) rfl rfl hl.1 rfl (lv_room (Nat.le_of_ble_eq_true rfl)) dX2_cancel_40 ⟨Nat.le_of_ble_eq_true rfl, Nat.le_of_ble_eq_true rfl⟩) hw hA (fun rw_77 Lw_77 fw_77 H locs hpost hw => ?_)
        obtain ⟨er_77, eL_77, hq⟩ := hpost
        subst er_77
        obtain rfl := eL_77.symm
        rw [show bI (decide ((0 : Int32) < 2)) = 1 from rfl]
        refine lv_if_eq (tgt := 48) hx hb dX2_cancel_43 (by decide) (fun c_78 => ?_) (fun c_78 => ?_)
        · exact absurd c_78 (by decide)
        · have bc_78 : (true) = true := bI_1 (fun z => c_78 (rfl.trans z))
          refine lv_iconst (v := 0) hx hb dX2_cancel_46 (by decide) ?_
          exact wy_iW hx hb hr hlocks dX2_cancel_47 hw (Nat.le_of_ble_eq_true rfl) (Nat.le_of_ble_eq_true rfl) (wm_no (by simp [rdC, cnB, bc_2, bc_3, bc_78, hok1, hok2, hst1]) (by decide) hq hm)
  · have bc_2 : (okN n p1 && okN 10 p2) = false := bI_0 (er_1.symm.trans c_2)
    refine lv_iconst (v := 1) hx hb dX2_cancel_12 (by decide) ?_
    refine lv_goto (tgt := 40) hx hb dX2_cancel_13 (by decide) ?_
    refine wy_call (va_runV (As := [.int 1]) (rest := []) ⟨hx, hb, hml, hown, hts⟩ (m_X2_fails l hq (1)) (cwV 1 hts gX2_cancel_X2_fails rfl rfl rfl (by decide +kernel) ⟨Nat.le_of_ble_eq_true rfl, Nat.le_of_ble_eq_true rfl⟩) (wy_pVW hK hw hq.1 rfl) rfl rfl hl.1 rfl (lv_room (Nat.le_of_ble_eq_true rfl)) dX2_cancel_40 ⟨Nat.le_of_ble_eq_true rfl, Nat.le_of_ble_eq_true rfl⟩) hw hA (fun rw_79 Lw_79 fw_79 H locs hpost hw => ?_)
    obtain ⟨er_79, eL_79, hq⟩ := hpost
    subst er_79
    obtain rfl := eL_79.symm
    rw [show bI (decide ((0 : Int32) < 1)) = 1 from rfl]
    refine lv_if_eq (tgt := 48) hx hb dX2_cancel_43 (by decide) (fun c_80 => ?_) (fun c_80 => ?_)
    · exact absurd c_80 (by decide)
    · have bc_80 : (true) = true := bI_1 (fun z => c_80 (rfl.trans z))
      refine lv_iconst (v := 0) hx hb dX2_cancel_46 (by decide) ?_
      exact wy_iW hx hb hr hlocks dX2_cancel_47 hw (Nat.le_of_ble_eq_true rfl) (Nat.le_of_ble_eq_true rfl) (wm_no (by simp [rdC, cnB, bc_2, bc_80]) (by decide) hq hm)
set_option maxHeartbeats 4000000 in
set_option maxRecDepth 100000 in
theorem m_X2_board (l : Launch) {G : wy_G} {L : List Nat} {f : Nat → va_E} {sz : Nat} {om : Nat} {ma : Nat → Nat} {n : Nat} {km mn : Int32} {wk : Nat} {th : Int32} {po : Nat → Int32} {rr : Nat → wr_V} {g0 g1 g2 g3 g4 g5 g6 g7 g8 g9 : Nat → Int32} {t : Nat} (hq : wm_S G L f om ma n km mn wk th g0 g1 g2 g3 g4 g5 g6 g7 g8 g9) (hm : wm_r po rr g0 g1 g2 g3 g4 g5 g6 g7 g8 g9) (hi : ∀ k, k < 40 → wi t (rr k)) (ht1 : t + 1 ≤ 512) (p1 p2 : Int32) : Met l yX2_board wsX2_board ({ frames := 3, cells := 0, slots := 0, locals := 65 } : Room) (va_Pc [.ref om, .int p1, .int p2] (wy_W G L f sz)) (wy_Q G (wm_p G L om ma (if rdC n p1 p2 (bdB (rr (ix p1)) (ix p2)) = 0 then n else n) (if rdC n p1 p2 (bdB (rr (ix p1)) (ix p2)) = 0 then km else km) (if rdC n p1 p2 (bdB (rr (ix p1)) (ix p2)) = 0 then mn else mn) (if rdC n p1 p2 (bdB (rr (ix p1)) (ix p2)) = 0 then wk else wk) (if rdC n p1 p2 (bdB (rr (ix p1)) (ix p2)) = 0 then po else po) (if rdC n p1 p2 (bdB (rr (ix p1)) (ix p2)) = 0 then va_up rr (ix p1) (vTake (rr (ix p1)) (ix p2)) else rr) (rdC n p1 p2 (bdB (rr (ix p1)) (ix p2))) (some (.int (if rdC n p1 p2 (bdB (rr (ix p1)) (ix p2)) = 0 then nI (cb (va_up (rsd (rr (ix p1))) (ix p2) true) 10) else 0)))) (wy_A L sz)) 0 0 (wy_A L sz) := by
  refine Met.ofW (cc := cX2_board) (maxL := 5) (ret := (some .int)) (by decide) rfl ?_
  intro p e s m args below meth c s₁ B hml hv
  obtain ⟨rfl, hv⟩ := hv
  obtain ⟨hw, hK, hA⟩ := wy_start hv
  have hsz := hv.1
  subst hsz
  have hx := B.exec
  have hb := B.bytes
  have hr := B.returns
  have hts := atoms_spec (ws := wsX2_board) B.pre
  have hown : s.vm.findClass RX2 = some m.cls := findClass_of_methodNamed B.named
  have hlocks := B.notSynchronized
  have hinX2 : ∀ w ∈ wsX20, w ∈ wsX2_board := by decide +kernel
  have hn : n ≤ 40 := hq.2.2.2.2.2.2.2.2.2.2.2.2.2.1
  have hwk : wk ≤ 20 := hq.2.2.2.2.2.2.2.2.2.2.2.2.2.2
  have hsN : ∀ v r, stN v r < 2 ^ 31 := fun v r => by unfold stN; split <;> (try split) <;> (try split) <;> decide
  have hdN : ∀ v r, dpN v r < 2 ^ 31 := fun v r => by unfold dpN; split <;> (try split) <;> (try split) <;> decide
  have hd1 := hq.2.2.2.2.2.2.2.2.2.2.2.1
  have hd2 := hq.2.2.2.2.2.2.2.2.2.2.2.2.1
  have ht : t ≤ 512 := by omega
  have hl := lv_entry ([.ref om, .int p1, .int p2]) (n := 5) (Nat.le_of_ble_eq_true rfl)
  rw [lg_entry_eq]
  generalize (lg_sl ([.ref om, .int p1, .int p2]) ++ List.replicate (5 - (lg_sl ([.ref om, .int p1, .int p2])).length) Slot.unset).toArray = ls at hl ⊢
  have hl : lv_has ls 5 [(0, .ref om), (1, .int p1), (2, .int p2)] := hl
  refine lv_aload_n hx hb dX2_board_0 rfl (lv_at hl 0 rfl) ?_
  refine lv_iload_n hx hb dX2_board_1 rfl (lv_at hl 1 rfl) ?_
  refine lv_iload_n hx hb dX2_board_2 rfl (lv_at hl 2 rfl) ?_
  refine vp_callSi (W.runV (As := [.int p1, .int p2]) (rest := []) ⟨hx, hb, hml, hown, hts⟩ (m_X2_isRider l hq hm hi ht (p1) (p2)) (cwV 2 hts gX2_board_X2_isRider rfl rfl rfl (by decide +kernel) ⟨Nat.le_of_ble_eq_true rfl, Nat.le_of_ble_eq_true rfl⟩) (wy_pVR hK hw.1 hq.1 rfl) rfl rfl hl.1 rfl (lv_room (Nat.le_of_ble_eq_true rfl)) dX2_board_3 ⟨Nat.le_of_ble_eq_true rfl, Nat.le_of_ble_eq_true rfl⟩) (fun r_1 er_1 => ?_)
  refine lv_istore_n (lv' := [(3, .int r_1), (0, .ref om), (1, .int p1), (2, .int p2)]) hx hb dX2_board_6 rfl hl (by decide) rfl (fun ls hl => ?_)
  refine lv_iload_n hx hb dX2_board_7 rfl (lv_at hl 0 rfl) ?_
  refine lv_if_eq (tgt := 52) hx hb dX2_board_8 (by decide) (fun c_2 => ?_) (fun c_2 => ?_)
  · have bc_2 : (okN n p1 && okN 10 p2) = false := bI_0 (er_1.symm.trans c_2)
    refine lv_iconst (v := 0) hx hb dX2_board_52 (by decide) ?_
    refine lv_istore (lv' := [(4, .int 0), (3, .int r_1), (0, .ref om), (1, .int p1), (2, .int p2)]) hx hb dX2_board_53 hl (by decide) rfl (fun ls hl => ?_)
    refine lv_aload_n hx hb dX2_board_55 rfl (lv_at hl 2 rfl) ?_
    refine lv_iload_n hx hb dX2_board_56 rfl (lv_at hl 1 rfl) ?_
    refine lv_if_ne (tgt := 64) hx hb dX2_board_57 (by decide) (fun c_3 => ?_) (fun c_3 => ?_)
    · have bc_3 : (okN n p1 && okN 10 p2) = true := bI_1 (fun z => c_3 (er_1.trans z))
      exact absurd (bc_2.symm.trans bc_3) (by decide)
    · have bc_3 : (okN n p1 && okN 10 p2) = false := bI_0 (er_1.symm.trans c_3)
      refine lv_iconst (v := 1) hx hb dX2_board_60 (by decide) ?_
      refine lv_goto (tgt := 74) hx hb dX2_board_61 (by decide) ?_
      refine wy_call (va_runV (As := [.int 1]) (rest := []) ⟨hx, hb, hml, hown, hts⟩ (m_X2_fails l hq (1)) (cwV 1 hts gX2_board_X2_fails rfl rfl rfl (by decide +kernel) ⟨Nat.le_of_ble_eq_true rfl, Nat.le_of_ble_eq_true rfl⟩) (wy_pVW hK hw hq.1 rfl) rfl rfl hl.1 rfl (lv_room (Nat.le_of_ble_eq_true rfl)) dX2_board_74 ⟨Nat.le_of_ble_eq_true rfl, Nat.le_of_ble_eq_true rfl⟩) hw hA (fun rw_4 Lw_4 fw_4 H locs hpost hw => ?_)
      obtain ⟨er_4, eL_4, hq⟩ := hpost
      subst er_4
      obtain rfl := eL_4.symm
      rw [show bI (decide ((0 : Int32) < 1)) = 1 from rfl]
      refine lv_if_eq (tgt := 82) hx hb dX2_board_77 (by decide) (fun c_5 => ?_) (fun c_5 => ?_)
      · exact absurd c_5 (by decide)
      · have bc_5 : (true) = true := bI_1 (fun z => c_5 (rfl.trans z))
        refine lv_iconst (v := 0) hx hb dX2_board_80 (by decide) ?_
        exact wy_iW hx hb hr hlocks dX2_board_81 hw (Nat.le_of_ble_eq_true rfl) (Nat.le_of_ble_eq_true rfl) (wm_no (by simp [rdC, bdB, bc_2, bc_3, bc_5]) (by decide) hq hm)
  · have bc_2 : (okN n p1 && okN 10 p2) = true := bI_1 (fun z => c_2 (er_1.trans z))
    obtain ⟨hok1, hok2⟩ : okN n p1 = true ∧ okN 10 p2 = true := by simpa using bc_2
    obtain ⟨hk1, e1⟩ := okN_ix hok1 (by omega)
    obtain ⟨hr10, e2⟩ := okN_ix hok2 (by omega)
    have hk40 : ix p1 < 40 := by omega
    refine lv_aload_n hx hb dX2_board_11 rfl (lv_at hl 1 rfl) ?_
    refine wy_get (ci := 3) (v := .ref (ma 3)) (C := RX2) (T := TX2) (N := 15) hx hb hts hinX2 hown hK hw.1 hq.1 rfl 6 (by decide) (hts (.fieldLink RX2 26 "WheelpayModel" "isDone" "[Z") (by decide +kernel)) (fun _ h9 => h9) rfl dX2_board_12 ?_
    refine lv_iload_n hx hb dX2_board_15 rfl (lv_at hl 2 rfl) ?_
    refine wy_zald hx hb hK hw.1 hq.2.2.2.2.1 ((ix p1)) e1 (by omega) (by omega) dX2_board_16 ?_
    rw [show g3 ((ix p1)) = bI (rfi (rr (ix p1))) from (hm.1 ((ix p1)) (by omega)).2.2.2.1]
    refine lv_if_ne (tgt := 52) hx hb dX2_board_17 (by decide) (fun c_6 => ?_) (fun c_6 => ?_)
    · have bc_6 : (rfi (rr (ix p1))) = true := bI_1 (fun z => c_6 (rfl.trans z))
      refine lv_iconst (v := 0) hx hb dX2_board_52 (by decide) ?_
      refine lv_istore (lv' := [(4, .int 0), (3, .int r_1), (0, .ref om), (1, .int p1), (2, .int p2)]) hx hb dX2_board_53 hl (by decide) rfl (fun ls hl => ?_)
      refine lv_aload_n hx hb dX2_board_55 rfl (lv_at hl 2 rfl) ?_
      refine lv_iload_n hx hb dX2_board_56 rfl (lv_at hl 1 rfl) ?_
      refine lv_if_ne (tgt := 64) hx hb dX2_board_57 (by decide) (fun c_7 => ?_) (fun c_7 => ?_)
      · have bc_7 : (okN n p1 && okN 10 p2) = true := bI_1 (fun z => c_7 (er_1.trans z))
        refine lv_iload hx hb dX2_board_64 (lv_at hl 0 rfl) ?_
        refine lv_if_eq (tgt := 73) hx hb dX2_board_66 (by decide) (fun c_8 => ?_) (fun c_8 => ?_)
        · have bc_8 : (false) = false := bI_0 ((rfl : (0 : Int32) = nI 0).symm.trans c_8)
          refine lv_iconst (v := 2) hx hb dX2_board_73 (by decide) ?_
          refine wy_call (va_runV (As := [.int 2]) (rest := []) ⟨hx, hb, hml, hown, hts⟩ (m_X2_fails l hq (2)) (cwV 1 hts gX2_board_X2_fails rfl rfl rfl (by decide +kernel) ⟨Nat.le_of_ble_eq_true rfl, Nat.le_of_ble_eq_true rfl⟩) (wy_pVW hK hw hq.1 rfl) rfl rfl hl.1 rfl (lv_room (Nat.le_of_ble_eq_true rfl)) dX2_board_74 ⟨Nat.le_of_ble_eq_true rfl, Nat.le_of_ble_eq_true rfl⟩) hw hA (fun rw_9 Lw_9 fw_9 H locs hpost hw => ?_)
          obtain ⟨er_9, eL_9, hq⟩ := hpost
          subst er_9
          obtain rfl := eL_9.symm
          rw [show bI (decide ((0 : Int32) < 2)) = 1 from rfl]
          refine lv_if_eq (tgt := 82) hx hb dX2_board_77 (by decide) (fun c_10 => ?_) (fun c_10 => ?_)
          · exact absurd c_10 (by decide)
          · have bc_10 : (true) = true := bI_1 (fun z => c_10 (rfl.trans z))
            refine lv_iconst (v := 0) hx hb dX2_board_80 (by decide) ?_
            exact wy_iW hx hb hr hlocks dX2_board_81 hw (Nat.le_of_ble_eq_true rfl) (Nat.le_of_ble_eq_true rfl) (wm_no (by simp [rdC, bdB, bc_2, bc_6, bc_7, bc_10, hok1, hok2]) (by decide) hq hm)
        · exact absurd (rfl : (0 : Int32) = nI 0) c_8
      · have bc_7 : (okN n p1 && okN 10 p2) = false := bI_0 (er_1.symm.trans c_7)
        exact absurd (bc_2.symm.trans bc_7) (by decide)
    · have bc_6 : (rfi (rr (ix p1))) = false := bI_0 (rfl.symm.trans c_6)
      have hfinx : rfi (rr (ix p1)) = false := bc_6
      refine lv_aload_n hx hb dX2_board_20 rfl (lv_at hl 1 rfl) ?_
      refine lv_iload_n hx hb dX2_board_21 rfl (lv_at hl 2 rfl) ?_
      refine lv_iload_n hx hb dX2_board_22 rfl (lv_at hl 3 rfl) ?_
      refine vp_callSi (W.runV (As := [.int p1, .int p2]) (rest := []) ⟨hx, hb, hml, hown, hts⟩ (m_X2_at l hq hm hi ht (p1) ((ix p1)) (by omega) e1 (p2) ((ix p2)) (by omega) e2) (cwV 2 hts gX2_board_X2_at rfl rfl rfl (by decide +kernel) ⟨Nat.le_of_ble_eq_true rfl, Nat.le_of_ble_eq_true rfl⟩) (wy_pVR hK hw.1 hq.1 rfl) rfl rfl hl.1 rfl (lv_room (Nat.le_of_ble_eq_true rfl)) dX2_board_23 ⟨Nat.le_of_ble_eq_true rfl, Nat.le_of_ble_eq_true rfl⟩) (fun r_11 er_11 => ?_)
      refine lv_iconst (v := 2) hx hb dX2_board_26 (by decide) ?_
      refine lv_icmp_eq (tgt := 52) hx hb dX2_board_27 (by decide) (fun c_12 => ?_) (fun c_12 => ?_)
      · have nc_12 : stN (rr (ix p1)) (ix p2) = 2 := (wy_eq er_11 (rfl : (2 : Int32) = nI 2) (by first | omega | exact hsN _ _ | exact hdN _ _ | exact Nat.lt_of_le_of_lt (cb_le _ _) (by omega)) (by decide)).mp c_12
        have hst2 : rsd (rr (ix p1)) (ix p2) = true := (stN2 (hi _ hk40) hr10 hfinx).mp nc_12
        refine lv_iconst (v := 0) hx hb dX2_board_52 (by decide) ?_
        refine lv_istore (lv' := [(4, .int 0), (3, .int r_1), (0, .ref om), (1, .int p1), (2, .int p2)]) hx hb dX2_board_53 hl (by decide) rfl (fun ls hl => ?_)
        refine lv_aload_n hx hb dX2_board_55 rfl (lv_at hl 2 rfl) ?_
        refine lv_iload_n hx hb dX2_board_56 rfl (lv_at hl 1 rfl) ?_
        refine lv_if_ne (tgt := 64) hx hb dX2_board_57 (by decide) (fun c_13 => ?_) (fun c_13 => ?_)
        · have bc_13 : (okN n p1 && okN 10 p2) = true := bI_1 (fun z => c_13 (er_1.trans z))
          refine lv_iload hx hb dX2_board_64 (lv_at hl 0 rfl) ?_
          refine lv_if_eq (tgt := 73) hx hb dX2_board_66 (by decide) (fun c_14 => ?_) (fun c_14 => ?_)
          · have bc_14 : (false) = false := bI_0 ((rfl : (0 : Int32) = nI 0).symm.trans c_14)
            refine lv_iconst (v := 2) hx hb dX2_board_73 (by decide) ?_
            refine wy_call (va_runV (As := [.int 2]) (rest := []) ⟨hx, hb, hml, hown, hts⟩ (m_X2_fails l hq (2)) (cwV 1 hts gX2_board_X2_fails rfl rfl rfl (by decide +kernel) ⟨Nat.le_of_ble_eq_true rfl, Nat.le_of_ble_eq_true rfl⟩) (wy_pVW hK hw hq.1 rfl) rfl rfl hl.1 rfl (lv_room (Nat.le_of_ble_eq_true rfl)) dX2_board_74 ⟨Nat.le_of_ble_eq_true rfl, Nat.le_of_ble_eq_true rfl⟩) hw hA (fun rw_15 Lw_15 fw_15 H locs hpost hw => ?_)
            obtain ⟨er_15, eL_15, hq⟩ := hpost
            subst er_15
            obtain rfl := eL_15.symm
            rw [show bI (decide ((0 : Int32) < 2)) = 1 from rfl]
            refine lv_if_eq (tgt := 82) hx hb dX2_board_77 (by decide) (fun c_16 => ?_) (fun c_16 => ?_)
            · exact absurd c_16 (by decide)
            · have bc_16 : (true) = true := bI_1 (fun z => c_16 (rfl.trans z))
              refine lv_iconst (v := 0) hx hb dX2_board_80 (by decide) ?_
              exact wy_iW hx hb hr hlocks dX2_board_81 hw (Nat.le_of_ble_eq_true rfl) (Nat.le_of_ble_eq_true rfl) (wm_no (by simp [rdC, bdB, bc_2, bc_6, bc_13, bc_16, hok1, hok2, hst2]) (by decide) hq hm)
          · exact absurd (rfl : (0 : Int32) = nI 0) c_14
        · have bc_13 : (okN n p1 && okN 10 p2) = false := bI_0 (er_1.symm.trans c_13)
          exact absurd (bc_2.symm.trans bc_13) (by decide)
      · have nc_12 : ¬ (stN (rr (ix p1)) (ix p2) = 2) := fun z => c_12 ((wy_eq er_11 (rfl : (2 : Int32) = nI 2) (by first | omega | exact hsN _ _ | exact hdN _ _ | exact Nat.lt_of_le_of_lt (cb_le _ _) (by omega)) (by decide)).mpr z)
        have hst2 : rsd (rr (ix p1)) (ix p2) = false := (by
          cases h : rsd (rr (ix p1)) (ix p2) with
          | false => rfl
          | true => exact absurd ((stN2 (hi _ hk40) hr10 hfinx).mpr h) nc_12)
        refine lv_aload_n hx hb dX2_board_30 rfl (lv_at hl 1 rfl) ?_
        refine lv_iload_n hx hb dX2_board_31 rfl (lv_at hl 2 rfl) ?_
        refine lv_iload_n hx hb dX2_board_32 rfl (lv_at hl 3 rfl) ?_
        refine vp_callSi (W.runV (As := [.int p1, .int p2]) (rest := []) ⟨hx, hb, hml, hown, hts⟩ (m_X2_at l hq hm hi ht (p1) ((ix p1)) (by omega) e1 (p2) ((ix p2)) (by omega) e2) (cwV 2 hts gX2_board_X2_at rfl rfl rfl (by decide +kernel) ⟨Nat.le_of_ble_eq_true rfl, Nat.le_of_ble_eq_true rfl⟩) (wy_pVR hK hw.1 hq.1 rfl) rfl rfl hl.1 rfl (lv_room (Nat.le_of_ble_eq_true rfl)) dX2_board_33 ⟨Nat.le_of_ble_eq_true rfl, Nat.le_of_ble_eq_true rfl⟩) (fun r_17 er_17 => ?_)
        refine lv_iconst (v := 1) hx hb dX2_board_36 (by decide) ?_
        refine lv_icmp_eq (tgt := 48) hx hb dX2_board_37 (by decide) (fun c_18 => ?_) (fun c_18 => ?_)
        · have nc_18 : stN (rr (ix p1)) (ix p2) = 1 := (wy_eq er_17 (rfl : (1 : Int32) = nI 1) (by first | omega | exact hsN _ _ | exact hdN _ _ | exact Nat.lt_of_le_of_lt (cb_le _ _) (by omega)) (by decide)).mp c_18
          have hst1 : rbk (rr (ix p1)) (ix p2) = true := (stN1 hfinx).mp nc_18
          refine lv_iconst (v := 1) hx hb dX2_board_48 (by decide) ?_
          refine lv_goto (tgt := 53) hx hb dX2_board_49 (by decide) ?_
          refine lv_istore (lv' := [(4, .int 1), (3, .int r_1), (0, .ref om), (1, .int p1), (2, .int p2)]) hx hb dX2_board_53 hl (by decide) rfl (fun ls hl => ?_)
          refine lv_aload_n hx hb dX2_board_55 rfl (lv_at hl 2 rfl) ?_
          refine lv_iload_n hx hb dX2_board_56 rfl (lv_at hl 1 rfl) ?_
          refine lv_if_ne (tgt := 64) hx hb dX2_board_57 (by decide) (fun c_19 => ?_) (fun c_19 => ?_)
          · have bc_19 : (okN n p1 && okN 10 p2) = true := bI_1 (fun z => c_19 (er_1.trans z))
            refine lv_iload hx hb dX2_board_64 (lv_at hl 0 rfl) ?_
            refine lv_if_eq (tgt := 73) hx hb dX2_board_66 (by decide) (fun c_20 => ?_) (fun c_20 => ?_)
            · exact absurd c_20 (by decide)
            · have bc_20 : (true) = true := bI_1 (fun z => c_20 ((rfl : (1 : Int32) = nI 1).trans z))
              refine lv_iconst (v := 0) hx hb dX2_board_69 (by decide) ?_
              refine lv_goto (tgt := 74) hx hb dX2_board_70 (by decide) ?_
              refine wy_call (va_runV (As := [.int 0]) (rest := []) ⟨hx, hb, hml, hown, hts⟩ (m_X2_fails l hq (0)) (cwV 1 hts gX2_board_X2_fails rfl rfl rfl (by decide +kernel) ⟨Nat.le_of_ble_eq_true rfl, Nat.le_of_ble_eq_true rfl⟩) (wy_pVW hK hw hq.1 rfl) rfl rfl hl.1 rfl (lv_room (Nat.le_of_ble_eq_true rfl)) dX2_board_74 ⟨Nat.le_of_ble_eq_true rfl, Nat.le_of_ble_eq_true rfl⟩) hw hA (fun rw_21 Lw_21 fw_21 H locs hpost hw => ?_)
              obtain ⟨er_21, eL_21, hq⟩ := hpost
              subst er_21
              obtain rfl := eL_21.symm
              rw [show bI (decide ((0 : Int32) < 0)) = 0 from rfl]
              refine lv_if_eq (tgt := 82) hx hb dX2_board_77 (by decide) (fun c_22 => ?_) (fun c_22 => ?_)
              · have bc_22 : (false) = false := bI_0 (rfl.symm.trans c_22)
                refine lv_aload_n hx hb dX2_board_82 rfl (lv_at hl 2 rfl) ?_
                refine wy_get (ci := 3) (v := .ref (ma 5)) (C := RX2) (T := TX2) (N := 15) hx hb hts hinX2 hown hK hw.1 hq.1 rfl 8 (by decide) (hts (.fieldLink RX2 33 "WheelpayModel" "state" "[I") (by decide +kernel)) (fun _ h9 => h9) rfl dX2_board_83 ?_
                refine lv_bipush (v := 10) hx hb dX2_board_86 (by decide) ?_
                refine lv_iload_n hx hb dX2_board_88 rfl (lv_at hl 3 rfl) ?_
                refine lv_imul hx hb dX2_board_89 ?_
                refine lv_topi (fun x_23 ex_23 => ?_)
                have nx_23 : x_23 = nI (10 * (ix p1)) := ex_23.trans ((congr (congrArg (fun u v : Int32 => u * v) (rfl : (10 : Int32) = nI 10)) e1).trans (pk_mul _ _))
                refine lv_iload_n hx hb dX2_board_90 rfl (lv_at hl 4 rfl) ?_
                refine lv_iadd hx hb dX2_board_91 ?_
                refine lv_topi (fun x_24 ex_24 => ?_)
                have nx_24 : x_24 = nI (10 * (ix p1) + (ix p2)) := ex_24.trans ((congr (congrArg (fun u v : Int32 => u + v) nx_23) e2).trans (nI_add _ _))
                refine lv_iconst (v := 2) hx hb dX2_board_92 (by decide) ?_
                refine wy_iast hx hb hK hw hq.2.2.2.2.2.2.1 (10 * (ix p1) + (ix p2)) nx_24 (by omega) (by omega) dX2_board_93 (fun H locs f_25 hs_26 hn_27 hw => ?_)
                have hc_28 := wy_c.ne2 hq.1 hn_27 (hd1 5 (by decide))
                have hc_29 := wy_c.ne2 hq.2.1 hn_27 (hd2 0 5 (by decide) (by decide) (by decide))
                have hc_30 := wy_c.ne2 hq.2.2.1 hn_27 (hd2 1 5 (by decide) (by decide) (by decide))
                have hc_31 := wy_c.ne2 hq.2.2.2.1 hn_27 (hd2 2 5 (by decide) (by decide) (by decide))
                have hc_32 := wy_c.ne2 hq.2.2.2.2.1 hn_27 (hd2 3 5 (by decide) (by decide) (by decide))
                have hc_33 := wy_c.ne2 hq.2.2.2.2.2.1 hn_27 (hd2 4 5 (by decide) (by decide) (by decide))
                have hc_34 := wy_c.ne2 hq.2.2.2.2.2.2.2.1 hn_27 (hd2 6 5 (by decide) (by decide) (by decide))
                have hc_35 := wy_c.ne2 hq.2.2.2.2.2.2.2.2.1 hn_27 (hd2 7 5 (by decide) (by decide) (by decide))
                have hc_36 := wy_c.ne2 hq.2.2.2.2.2.2.2.2.2.1 hn_27 (hd2 8 5 (by decide) (by decide) (by decide))
                have hc_37 := wy_c.ne2 hq.2.2.2.2.2.2.2.2.2.2.1 hn_27 (hd2 9 5 (by decide) (by decide) (by decide))
                obtain ⟨g5_38, eg5_38⟩ : ∃ z, z = upd g5 (10 * (ix p1) + (ix p2)) 2 := ⟨_, rfl⟩
                have hg5_38 : wy_c L f_25 (ma 5) (.inl (G.2 0, 400, .inl g5_38)) := by rw [eg5_38]; exact hs_26
                have hq : wm_S G L f_25 om ma n km mn wk 0 g0 g1 g2 g3 g4 g5_38 g6 g7 g8 g9 := ⟨hc_28, hc_29, hc_30, hc_31, hc_32, hc_33, hg5_38, hc_34, hc_35, hc_36, hc_37, hd1, hd2, (by omega), (by omega)⟩
                have hm : wm_r po (va_up rr (ix p1) (vTake (rr (ix p1)) (ix p2))) g0 g1 g2 g3 g4 g5_38 g6 g7 g8 g9 := by rw [eg5_38]; exact wm_take hm hk40 hr10 hfinx
                have hi : ∀ j, j < 40 → wi (t + 1) ((va_up rr (ix p1) (vTake (rr (ix p1)) (ix p2))) j) := wi_all hi (wi_take (hi _ hk40) hr10 hfinx hst2 (Or.inl hst1))
                have ht := ht1
                have hfinx : rfi ((va_up rr (ix p1) (vTake (rr (ix p1)) (ix p2))) (ix p1)) = false := by rw [va_up_self]; exact hfinx
                refine lv_aload_n hx hb dX2_board_94 rfl (lv_at hl 2 rfl) ?_
                refine lv_iload_n hx hb dX2_board_95 rfl (lv_at hl 3 rfl) ?_
                refine lv_iconst (v := 2) hx hb dX2_board_96 (by decide) ?_
                refine vp_callSi (W.runV (As := [.int p1, .int 2]) (rest := []) ⟨hx, hb, hml, hown, hts⟩ (m_X2_many l hq hm hi ht (p1) ((ix p1)) (by omega) e1 (2) (2) (by decide) (rfl : (2 : Int32) = nI 2)) (cwV 2 hts gX2_board_X2_many rfl rfl rfl (by decide +kernel) ⟨Nat.le_of_ble_eq_true rfl, Nat.le_of_ble_eq_true rfl⟩) (wy_pVR hK hw.1 hq.1 rfl) rfl rfl hl.1 rfl (lv_room (Nat.le_of_ble_eq_true rfl)) dX2_board_97 ⟨Nat.le_of_ble_eq_true rfl, Nat.le_of_ble_eq_true rfl⟩) (fun r_39 er_39 => ?_)
                exact wy_iW hx hb hr hlocks dX2_board_100 hw (Nat.le_of_ble_eq_true rfl) (Nat.le_of_ble_eq_true rfl) (wm_ok (by simp [rdC, bdB, bc_2, bc_6, bc_19, bc_20, hok1, hok2, hst2, hst1]) (er_39.trans (congrArg nI ((mny2 (hi _ hk40) hfinx).trans (by rw [va_up_self]; rfl)))) hq hm)
              · exact absurd rfl c_22
          · have bc_19 : (okN n p1 && okN 10 p2) = false := bI_0 (er_1.symm.trans c_19)
            exact absurd (bc_2.symm.trans bc_19) (by decide)
        · have nc_18 : ¬ (stN (rr (ix p1)) (ix p2) = 1) := fun z => c_18 ((wy_eq er_17 (rfl : (1 : Int32) = nI 1) (by first | omega | exact hsN _ _ | exact hdN _ _ | exact Nat.lt_of_le_of_lt (cb_le _ _) (by omega)) (by decide)).mpr z)
          have hst1 : rbk (rr (ix p1)) (ix p2) = false := (by
            cases h : rbk (rr (ix p1)) (ix p2) with
            | false => rfl
            | true => exact absurd ((stN1 hfinx).mpr h) nc_18)
          refine lv_aload_n hx hb dX2_board_40 rfl (lv_at hl 1 rfl) ?_
          refine lv_iload_n hx hb dX2_board_41 rfl (lv_at hl 2 rfl) ?_
          refine vp_callSi (W.runV (As := [.int p1]) (rest := []) ⟨hx, hb, hml, hown, hts⟩ (m_X2_free l hq hm hi ht (p1) ((ix p1)) (by omega) e1 hfinx) (cwV 1 hts gX2_board_X2_free rfl rfl rfl (by decide +kernel) ⟨Nat.le_of_ble_eq_true rfl, Nat.le_of_ble_eq_true rfl⟩) (wy_pVR hK hw.1 hq.1 rfl) rfl rfl hl.1 rfl (lv_room (Nat.le_of_ble_eq_true rfl)) dX2_board_42 ⟨Nat.le_of_ble_eq_true rfl, Nat.le_of_ble_eq_true rfl⟩) (fun r_40 er_40 => ?_)
          refine lv_if_le (tgt := 52) hx hb dX2_board_45 (by decide) (fun c_41 => ?_) (fun c_41 => ?_)
          · have hfr0 : freeR (rr (ix p1)) ≤ 0 := (by rw [← er_40]; exact c_41)
            refine lv_iconst (v := 0) hx hb dX2_board_52 (by decide) ?_
            refine lv_istore (lv' := [(4, .int 0), (3, .int r_1), (0, .ref om), (1, .int p1), (2, .int p2)]) hx hb dX2_board_53 hl (by decide) rfl (fun ls hl => ?_)
            refine lv_aload_n hx hb dX2_board_55 rfl (lv_at hl 2 rfl) ?_
            refine lv_iload_n hx hb dX2_board_56 rfl (lv_at hl 1 rfl) ?_
            refine lv_if_ne (tgt := 64) hx hb dX2_board_57 (by decide) (fun c_42 => ?_) (fun c_42 => ?_)
            · have bc_42 : (okN n p1 && okN 10 p2) = true := bI_1 (fun z => c_42 (er_1.trans z))
              refine lv_iload hx hb dX2_board_64 (lv_at hl 0 rfl) ?_
              refine lv_if_eq (tgt := 73) hx hb dX2_board_66 (by decide) (fun c_43 => ?_) (fun c_43 => ?_)
              · have bc_43 : (false) = false := bI_0 ((rfl : (0 : Int32) = nI 0).symm.trans c_43)
                refine lv_iconst (v := 2) hx hb dX2_board_73 (by decide) ?_
                refine wy_call (va_runV (As := [.int 2]) (rest := []) ⟨hx, hb, hml, hown, hts⟩ (m_X2_fails l hq (2)) (cwV 1 hts gX2_board_X2_fails rfl rfl rfl (by decide +kernel) ⟨Nat.le_of_ble_eq_true rfl, Nat.le_of_ble_eq_true rfl⟩) (wy_pVW hK hw hq.1 rfl) rfl rfl hl.1 rfl (lv_room (Nat.le_of_ble_eq_true rfl)) dX2_board_74 ⟨Nat.le_of_ble_eq_true rfl, Nat.le_of_ble_eq_true rfl⟩) hw hA (fun rw_44 Lw_44 fw_44 H locs hpost hw => ?_)
                obtain ⟨er_44, eL_44, hq⟩ := hpost
                subst er_44
                obtain rfl := eL_44.symm
                rw [show bI (decide ((0 : Int32) < 2)) = 1 from rfl]
                refine lv_if_eq (tgt := 82) hx hb dX2_board_77 (by decide) (fun c_45 => ?_) (fun c_45 => ?_)
                · exact absurd c_45 (by decide)
                · have bc_45 : (true) = true := bI_1 (fun z => c_45 (rfl.trans z))
                  refine lv_iconst (v := 0) hx hb dX2_board_80 (by decide) ?_
                  exact wy_iW hx hb hr hlocks dX2_board_81 hw (Nat.le_of_ble_eq_true rfl) (Nat.le_of_ble_eq_true rfl) (wm_no (by simp [rdC, bdB, bc_2, bc_6, bc_42, bc_45, hok1, hok2, hst2, hst1, hfr0]) (by decide) hq hm)
              · exact absurd (rfl : (0 : Int32) = nI 0) c_43
            · have bc_42 : (okN n p1 && okN 10 p2) = false := bI_0 (er_1.symm.trans c_42)
              exact absurd (bc_2.symm.trans bc_42) (by decide)
          · have hfr0 : ¬ freeR (rr (ix p1)) ≤ 0 := fun z => c_41 (by rw [er_40]; exact z)
            refine lv_iconst (v := 1) hx hb dX2_board_48 (by decide) ?_
            refine lv_goto (tgt := 53) hx hb dX2_board_49 (by decide) ?_
            refine lv_istore (lv' := [(4, .int 1), (3, .int r_1), (0, .ref om), (1, .int p1), (2, .int p2)]) hx hb dX2_board_53 hl (by decide) rfl (fun ls hl => ?_)
            refine lv_aload_n hx hb dX2_board_55 rfl (lv_at hl 2 rfl) ?_
            refine lv_iload_n hx hb dX2_board_56 rfl (lv_at hl 1 rfl) ?_
            refine lv_if_ne (tgt := 64) hx hb dX2_board_57 (by decide) (fun c_46 => ?_) (fun c_46 => ?_)
            · have bc_46 : (okN n p1 && okN 10 p2) = true := bI_1 (fun z => c_46 (er_1.trans z))
              refine lv_iload hx hb dX2_board_64 (lv_at hl 0 rfl) ?_
              refine lv_if_eq (tgt := 73) hx hb dX2_board_66 (by decide) (fun c_47 => ?_) (fun c_47 => ?_)
              · exact absurd c_47 (by decide)
              · have bc_47 : (true) = true := bI_1 (fun z => c_47 ((rfl : (1 : Int32) = nI 1).trans z))
                refine lv_iconst (v := 0) hx hb dX2_board_69 (by decide) ?_
                refine lv_goto (tgt := 74) hx hb dX2_board_70 (by decide) ?_
                refine wy_call (va_runV (As := [.int 0]) (rest := []) ⟨hx, hb, hml, hown, hts⟩ (m_X2_fails l hq (0)) (cwV 1 hts gX2_board_X2_fails rfl rfl rfl (by decide +kernel) ⟨Nat.le_of_ble_eq_true rfl, Nat.le_of_ble_eq_true rfl⟩) (wy_pVW hK hw hq.1 rfl) rfl rfl hl.1 rfl (lv_room (Nat.le_of_ble_eq_true rfl)) dX2_board_74 ⟨Nat.le_of_ble_eq_true rfl, Nat.le_of_ble_eq_true rfl⟩) hw hA (fun rw_48 Lw_48 fw_48 H locs hpost hw => ?_)
                obtain ⟨er_48, eL_48, hq⟩ := hpost
                subst er_48
                obtain rfl := eL_48.symm
                rw [show bI (decide ((0 : Int32) < 0)) = 0 from rfl]
                refine lv_if_eq (tgt := 82) hx hb dX2_board_77 (by decide) (fun c_49 => ?_) (fun c_49 => ?_)
                · have bc_49 : (false) = false := bI_0 (rfl.symm.trans c_49)
                  refine lv_aload_n hx hb dX2_board_82 rfl (lv_at hl 2 rfl) ?_
                  refine wy_get (ci := 3) (v := .ref (ma 5)) (C := RX2) (T := TX2) (N := 15) hx hb hts hinX2 hown hK hw.1 hq.1 rfl 8 (by decide) (hts (.fieldLink RX2 33 "WheelpayModel" "state" "[I") (by decide +kernel)) (fun _ h9 => h9) rfl dX2_board_83 ?_
                  refine lv_bipush (v := 10) hx hb dX2_board_86 (by decide) ?_
                  refine lv_iload_n hx hb dX2_board_88 rfl (lv_at hl 3 rfl) ?_
                  refine lv_imul hx hb dX2_board_89 ?_
                  refine lv_topi (fun x_50 ex_50 => ?_)
                  have nx_50 : x_50 = nI (10 * (ix p1)) := ex_50.trans ((congr (congrArg (fun u v : Int32 => u * v) (rfl : (10 : Int32) = nI 10)) e1).trans (pk_mul _ _))
                  refine lv_iload_n hx hb dX2_board_90 rfl (lv_at hl 4 rfl) ?_
                  refine lv_iadd hx hb dX2_board_91 ?_
                  refine lv_topi (fun x_51 ex_51 => ?_)
                  have nx_51 : x_51 = nI (10 * (ix p1) + (ix p2)) := ex_51.trans ((congr (congrArg (fun u v : Int32 => u + v) nx_50) e2).trans (nI_add _ _))
                  refine lv_iconst (v := 2) hx hb dX2_board_92 (by decide) ?_
                  refine wy_iast hx hb hK hw hq.2.2.2.2.2.2.1 (10 * (ix p1) + (ix p2)) nx_51 (by omega) (by omega) dX2_board_93 (fun H locs f_52 hs_53 hn_54 hw => ?_)
                  have hc_55 := wy_c.ne2 hq.1 hn_54 (hd1 5 (by decide))
                  have hc_56 := wy_c.ne2 hq.2.1 hn_54 (hd2 0 5 (by decide) (by decide) (by decide))
                  have hc_57 := wy_c.ne2 hq.2.2.1 hn_54 (hd2 1 5 (by decide) (by decide) (by decide))
                  have hc_58 := wy_c.ne2 hq.2.2.2.1 hn_54 (hd2 2 5 (by decide) (by decide) (by decide))
                  have hc_59 := wy_c.ne2 hq.2.2.2.2.1 hn_54 (hd2 3 5 (by decide) (by decide) (by decide))
                  have hc_60 := wy_c.ne2 hq.2.2.2.2.2.1 hn_54 (hd2 4 5 (by decide) (by decide) (by decide))
                  have hc_61 := wy_c.ne2 hq.2.2.2.2.2.2.2.1 hn_54 (hd2 6 5 (by decide) (by decide) (by decide))
                  have hc_62 := wy_c.ne2 hq.2.2.2.2.2.2.2.2.1 hn_54 (hd2 7 5 (by decide) (by decide) (by decide))
                  have hc_63 := wy_c.ne2 hq.2.2.2.2.2.2.2.2.2.1 hn_54 (hd2 8 5 (by decide) (by decide) (by decide))
                  have hc_64 := wy_c.ne2 hq.2.2.2.2.2.2.2.2.2.2.1 hn_54 (hd2 9 5 (by decide) (by decide) (by decide))
                  obtain ⟨g5_65, eg5_65⟩ : ∃ z, z = upd g5 (10 * (ix p1) + (ix p2)) 2 := ⟨_, rfl⟩
                  have hg5_65 : wy_c L f_52 (ma 5) (.inl (G.2 0, 400, .inl g5_65)) := by rw [eg5_65]; exact hs_53
                  have hq : wm_S G L f_52 om ma n km mn wk 0 g0 g1 g2 g3 g4 g5_65 g6 g7 g8 g9 := ⟨hc_55, hc_56, hc_57, hc_58, hc_59, hc_60, hg5_65, hc_61, hc_62, hc_63, hc_64, hd1, hd2, (by omega), (by omega)⟩
                  have hm : wm_r po (va_up rr (ix p1) (vTake (rr (ix p1)) (ix p2))) g0 g1 g2 g3 g4 g5_65 g6 g7 g8 g9 := by rw [eg5_65]; exact wm_take hm hk40 hr10 hfinx
                  have hi : ∀ j, j < 40 → wi (t + 1) ((va_up rr (ix p1) (vTake (rr (ix p1)) (ix p2))) j) := wi_all hi (wi_take (hi _ hk40) hr10 hfinx hst2 (Or.inr hfr0))
                  have ht := ht1
                  have hfinx : rfi ((va_up rr (ix p1) (vTake (rr (ix p1)) (ix p2))) (ix p1)) = false := by rw [va_up_self]; exact hfinx
                  refine lv_aload_n hx hb dX2_board_94 rfl (lv_at hl 2 rfl) ?_
                  refine lv_iload_n hx hb dX2_board_95 rfl (lv_at hl 3 rfl) ?_
                  refine lv_iconst (v := 2) hx hb dX2_board_96 (by decide) ?_
                  refine vp_callSi (W.runV (As := [.int p1, .int 2]) (rest := []) ⟨hx, hb, hml, hown, hts⟩ (m_X2_many l hq hm hi ht (p1) ((ix p1)) (by omega) e1 (2) (2) (by decide) (rfl : (2 : Int32) = nI 2)) (cwV 2 hts gX2_board_X2_many rfl rfl rfl (by decide +kernel) ⟨Nat.le_of_ble_eq_true rfl, Nat.le_of_ble_eq_true rfl⟩) (wy_pVR hK hw.1 hq.1 rfl) rfl rfl hl.1 rfl (lv_room (Nat.le_of_ble_eq_true rfl)) dX2_board_97 ⟨Nat.le_of_ble_eq_true rfl, Nat.le_of_ble_eq_true rfl⟩) (fun r_66 er_66 => ?_)
                  exact wy_iW hx hb hr hlocks dX2_board_100 hw (Nat.le_of_ble_eq_true rfl) (Nat.le_of_ble_eq_true rfl) (wm_ok (by simp [rdC, bdB, bc_2, bc_6, bc_46, bc_47, hok1, hok2, hst2, hst1, hfr0]) (er_66.trans (congrArg nI ((mny2 (hi _ hk40) hfinx).trans (by rw [va_up_self]; rfl)))) hq hm)
                · exact absurd rfl c_49
            · have bc_46 : (okN n p1 && okN 10 p2) = false := bI_0 (er_1.symm.trans c_46)
              exact absurd (bc_2.symm.trans bc_46) (by decide)
set_option maxHeartbeats 4000000 in
set_option maxRecDepth 100000 in
theorem m_X2_leave (l : Launch) {G : wy_G} {L : List Nat} {f : Nat → va_E} {sz : Nat} {om : Nat} {ma : Nat → Nat} {n : Nat} {km mn : Int32} {wk : Nat} {th : Int32} {po : Nat → Int32} {rr : Nat → wr_V} {g0 g1 g2 g3 g4 g5 g6 g7 g8 g9 : Nat → Int32} {t : Nat} (hq : wm_S G L f om ma n km mn wk th g0 g1 g2 g3 g4 g5 g6 g7 g8 g9) (hm : wm_r po rr g0 g1 g2 g3 g4 g5 g6 g7 g8 g9) (hi : ∀ k, k < 40 → wi t (rr k)) (ht1 : t + 1 ≤ 512) (p1 p2 : Int32) : Met l yX2_leave wsX2_leave ({ frames := 3, cells := 0, slots := 0, locals := 65 } : Room) (va_Pc [.ref om, .int p1, .int p2] (wy_W G L f sz)) (wy_Q G (wm_p G L om ma (if rdC n p1 p2 (lvB (rr (ix p1)) (ix p2)) = 0 then n else n) (if rdC n p1 p2 (lvB (rr (ix p1)) (ix p2)) = 0 then km else km) (if rdC n p1 p2 (lvB (rr (ix p1)) (ix p2)) = 0 then mn else mn) (if rdC n p1 p2 (lvB (rr (ix p1)) (ix p2)) = 0 then wk else wk) (if rdC n p1 p2 (lvB (rr (ix p1)) (ix p2)) = 0 then po else po) (if rdC n p1 p2 (lvB (rr (ix p1)) (ix p2)) = 0 then va_up rr (ix p1) (vOut (rr (ix p1)) (ix p2)) else rr) (rdC n p1 p2 (lvB (rr (ix p1)) (ix p2))) (some (.int (if rdC n p1 p2 (lvB (rr (ix p1)) (ix p2)) = 0 then rch (rr (ix p1)) (ix p2) else 0)))) (wy_A L sz)) 0 0 (wy_A L sz) := by
  refine Met.ofW (cc := cX2_leave) (maxL := 4) (ret := (some .int)) (by decide) rfl ?_
  intro p e s m args below meth c s₁ B hml hv
  obtain ⟨rfl, hv⟩ := hv
  obtain ⟨hw, hK, hA⟩ := wy_start hv
  have hsz := hv.1
  subst hsz
  have hx := B.exec
  have hb := B.bytes
  have hr := B.returns
  have hts := atoms_spec (ws := wsX2_leave) B.pre
  have hown : s.vm.findClass RX2 = some m.cls := findClass_of_methodNamed B.named
  have hlocks := B.notSynchronized
  have hinX2 : ∀ w ∈ wsX20, w ∈ wsX2_leave := by decide +kernel
  have hn : n ≤ 40 := hq.2.2.2.2.2.2.2.2.2.2.2.2.2.1
  have hwk : wk ≤ 20 := hq.2.2.2.2.2.2.2.2.2.2.2.2.2.2
  have hsN : ∀ v r, stN v r < 2 ^ 31 := fun v r => by unfold stN; split <;> (try split) <;> (try split) <;> decide
  have hdN : ∀ v r, dpN v r < 2 ^ 31 := fun v r => by unfold dpN; split <;> (try split) <;> (try split) <;> decide
  have hd1 := hq.2.2.2.2.2.2.2.2.2.2.2.1
  have hd2 := hq.2.2.2.2.2.2.2.2.2.2.2.2.1
  have ht : t ≤ 512 := by omega
  have hl := lv_entry ([.ref om, .int p1, .int p2]) (n := 4) (Nat.le_of_ble_eq_true rfl)
  rw [lg_entry_eq]
  generalize (lg_sl ([.ref om, .int p1, .int p2]) ++ List.replicate (4 - (lg_sl ([.ref om, .int p1, .int p2])).length) Slot.unset).toArray = ls at hl ⊢
  have hl : lv_has ls 4 [(0, .ref om), (1, .int p1), (2, .int p2)] := hl
  refine lv_aload_n hx hb dX2_leave_0 rfl (lv_at hl 0 rfl) ?_
  refine lv_iload_n hx hb dX2_leave_1 rfl (lv_at hl 1 rfl) ?_
  refine lv_iload_n hx hb dX2_leave_2 rfl (lv_at hl 2 rfl) ?_
  refine vp_callSi (W.runV (As := [.int p1, .int p2]) (rest := []) ⟨hx, hb, hml, hown, hts⟩ (m_X2_isRider l hq hm hi ht (p1) (p2)) (cwV 2 hts gX2_leave_X2_isRider rfl rfl rfl (by decide +kernel) ⟨Nat.le_of_ble_eq_true rfl, Nat.le_of_ble_eq_true rfl⟩) (wy_pVR hK hw.1 hq.1 rfl) rfl rfl hl.1 rfl (lv_room (Nat.le_of_ble_eq_true rfl)) dX2_leave_3 ⟨Nat.le_of_ble_eq_true rfl, Nat.le_of_ble_eq_true rfl⟩) (fun r_1 er_1 => ?_)
  refine lv_istore_n (lv' := [(3, .int r_1), (0, .ref om), (1, .int p1), (2, .int p2)]) hx hb dX2_leave_6 rfl hl (by decide) rfl (fun ls hl => ?_)
  refine lv_aload_n hx hb dX2_leave_7 rfl (lv_at hl 1 rfl) ?_
  refine lv_iload_n hx hb dX2_leave_8 rfl (lv_at hl 0 rfl) ?_
  refine lv_if_ne (tgt := 16) hx hb dX2_leave_9 (by decide) (fun c_2 => ?_) (fun c_2 => ?_)
  · have bc_2 : (okN n p1 && okN 10 p2) = true := bI_1 (fun z => c_2 (er_1.trans z))
    obtain ⟨hok1, hok2⟩ : okN n p1 = true ∧ okN 10 p2 = true := by simpa using bc_2
    obtain ⟨hk1, e1⟩ := okN_ix hok1 (by omega)
    obtain ⟨hr10, e2⟩ := okN_ix hok2 (by omega)
    have hk40 : ix p1 < 40 := by omega
    refine lv_aload_n hx hb dX2_leave_16 rfl (lv_at hl 1 rfl) ?_
    refine wy_get (ci := 3) (v := .ref (ma 3)) (C := RX2) (T := TX2) (N := 15) hx hb hts hinX2 hown hK hw.1 hq.1 rfl 6 (by decide) (hts (.fieldLink RX2 26 "WheelpayModel" "isDone" "[Z") (by decide +kernel)) (fun _ h9 => h9) rfl dX2_leave_17 ?_
    refine lv_iload_n hx hb dX2_leave_20 rfl (lv_at hl 2 rfl) ?_
    refine wy_zald hx hb hK hw.1 hq.2.2.2.2.1 ((ix p1)) e1 (by omega) (by omega) dX2_leave_21 ?_
    rw [show g3 ((ix p1)) = bI (rfi (rr (ix p1))) from (hm.1 ((ix p1)) (by omega)).2.2.2.1]
    refine lv_if_ne (tgt := 35) hx hb dX2_leave_22 (by decide) (fun c_3 => ?_) (fun c_3 => ?_)
    · have bc_3 : (rfi (rr (ix p1))) = true := bI_1 (fun z => c_3 (rfl.trans z))
      refine lv_iconst (v := 2) hx hb dX2_leave_35 (by decide) ?_
      refine lv_goto (tgt := 40) hx hb dX2_leave_36 (by decide) ?_
      refine wy_call (va_runV (As := [.int 2]) (rest := []) ⟨hx, hb, hml, hown, hts⟩ (m_X2_fails l hq (2)) (cwV 1 hts gX2_leave_X2_fails rfl rfl rfl (by decide +kernel) ⟨Nat.le_of_ble_eq_true rfl, Nat.le_of_ble_eq_true rfl⟩) (wy_pVW hK hw hq.1 rfl) rfl rfl hl.1 rfl (lv_room (Nat.le_of_ble_eq_true rfl)) dX2_leave_40 ⟨Nat.le_of_ble_eq_true rfl, Nat.le_of_ble_eq_true rfl⟩) hw hA (fun rw_4 Lw_4 fw_4 H locs hpost hw => ?_)
      obtain ⟨er_4, eL_4, hq⟩ := hpost
      subst er_4
      obtain rfl := eL_4.symm
      rw [show bI (decide ((0 : Int32) < 2)) = 1 from rfl]
      refine lv_if_eq (tgt := 48) hx hb dX2_leave_43 (by decide) (fun c_5 => ?_) (fun c_5 => ?_)
      · exact absurd c_5 (by decide)
      · have bc_5 : (true) = true := bI_1 (fun z => c_5 (rfl.trans z))
        refine lv_iconst (v := 0) hx hb dX2_leave_46 (by decide) ?_
        exact wy_iW hx hb hr hlocks dX2_leave_47 hw (Nat.le_of_ble_eq_true rfl) (Nat.le_of_ble_eq_true rfl) (wm_no (by simp [rdC, lvB, bc_2, bc_3, bc_5, hok1, hok2]) (by decide) hq hm)
    · have bc_3 : (rfi (rr (ix p1))) = false := bI_0 (rfl.symm.trans c_3)
      have hfinx : rfi (rr (ix p1)) = false := bc_3
      refine lv_aload_n hx hb dX2_leave_25 rfl (lv_at hl 1 rfl) ?_
      refine lv_iload_n hx hb dX2_leave_26 rfl (lv_at hl 2 rfl) ?_
      refine lv_iload_n hx hb dX2_leave_27 rfl (lv_at hl 3 rfl) ?_
      refine vp_callSi (W.runV (As := [.int p1, .int p2]) (rest := [.ref om]) ⟨hx, hb, hml, hown, hts⟩ (m_X2_at l hq hm hi ht (p1) ((ix p1)) (by omega) e1 (p2) ((ix p2)) (by omega) e2) (cwV 2 hts gX2_leave_X2_at rfl rfl rfl (by decide +kernel) ⟨Nat.le_of_ble_eq_true rfl, Nat.le_of_ble_eq_true rfl⟩) (wy_pVR hK hw.1 hq.1 rfl) rfl rfl hl.1 rfl (lv_room (Nat.le_of_ble_eq_true rfl)) dX2_leave_28 ⟨Nat.le_of_ble_eq_true rfl, Nat.le_of_ble_eq_true rfl⟩) (fun r_6 er_6 => ?_)
      refine lv_iconst (v := 2) hx hb dX2_leave_31 (by decide) ?_
      refine lv_icmp_eq (tgt := 39) hx hb dX2_leave_32 (by decide) (fun c_7 => ?_) (fun c_7 => ?_)
      · have nc_7 : stN (rr (ix p1)) (ix p2) = 2 := (wy_eq er_6 (rfl : (2 : Int32) = nI 2) (by first | omega | exact hsN _ _ | exact hdN _ _ | exact Nat.lt_of_le_of_lt (cb_le _ _) (by omega)) (by decide)).mp c_7
        have hst2 : rsd (rr (ix p1)) (ix p2) = true := (stN2 (hi _ hk40) hr10 hfinx).mp nc_7
        refine lv_iconst (v := 0) hx hb dX2_leave_39 (by decide) ?_
        refine wy_call (va_runV (As := [.int 0]) (rest := []) ⟨hx, hb, hml, hown, hts⟩ (m_X2_fails l hq (0)) (cwV 1 hts gX2_leave_X2_fails rfl rfl rfl (by decide +kernel) ⟨Nat.le_of_ble_eq_true rfl, Nat.le_of_ble_eq_true rfl⟩) (wy_pVW hK hw hq.1 rfl) rfl rfl hl.1 rfl (lv_room (Nat.le_of_ble_eq_true rfl)) dX2_leave_40 ⟨Nat.le_of_ble_eq_true rfl, Nat.le_of_ble_eq_true rfl⟩) hw hA (fun rw_8 Lw_8 fw_8 H locs hpost hw => ?_)
        obtain ⟨er_8, eL_8, hq⟩ := hpost
        subst er_8
        obtain rfl := eL_8.symm
        rw [show bI (decide ((0 : Int32) < 0)) = 0 from rfl]
        refine lv_if_eq (tgt := 48) hx hb dX2_leave_43 (by decide) (fun c_9 => ?_) (fun c_9 => ?_)
        · have bc_9 : (false) = false := bI_0 (rfl.symm.trans c_9)
          refine lv_aload_n hx hb dX2_leave_48 rfl (lv_at hl 1 rfl) ?_
          refine wy_get (ci := 3) (v := .ref (ma 5)) (C := RX2) (T := TX2) (N := 15) hx hb hts hinX2 hown hK hw.1 hq.1 rfl 8 (by decide) (hts (.fieldLink RX2 33 "WheelpayModel" "state" "[I") (by decide +kernel)) (fun _ h9 => h9) rfl dX2_leave_49 ?_
          refine lv_bipush (v := 10) hx hb dX2_leave_52 (by decide) ?_
          refine lv_iload_n hx hb dX2_leave_54 rfl (lv_at hl 2 rfl) ?_
          refine lv_imul hx hb dX2_leave_55 ?_
          refine lv_topi (fun x_10 ex_10 => ?_)
          have nx_10 : x_10 = nI (10 * (ix p1)) := ex_10.trans ((congr (congrArg (fun u v : Int32 => u * v) (rfl : (10 : Int32) = nI 10)) e1).trans (pk_mul _ _))
          refine lv_iload_n hx hb dX2_leave_56 rfl (lv_at hl 3 rfl) ?_
          refine lv_iadd hx hb dX2_leave_57 ?_
          refine lv_topi (fun x_11 ex_11 => ?_)
          have nx_11 : x_11 = nI (10 * (ix p1) + (ix p2)) := ex_11.trans ((congr (congrArg (fun u v : Int32 => u + v) nx_10) e2).trans (nI_add _ _))
          refine lv_iconst (v := 0) hx hb dX2_leave_58 (by decide) ?_
          refine wy_iast hx hb hK hw hq.2.2.2.2.2.2.1 (10 * (ix p1) + (ix p2)) nx_11 (by omega) (by omega) dX2_leave_59 (fun H locs f_12 hs_13 hn_14 hw => ?_)
          have hc_15 := wy_c.ne2 hq.1 hn_14 (hd1 5 (by decide))
          have hc_16 := wy_c.ne2 hq.2.1 hn_14 (hd2 0 5 (by decide) (by decide) (by decide))
          have hc_17 := wy_c.ne2 hq.2.2.1 hn_14 (hd2 1 5 (by decide) (by decide) (by decide))
          have hc_18 := wy_c.ne2 hq.2.2.2.1 hn_14 (hd2 2 5 (by decide) (by decide) (by decide))
          have hc_19 := wy_c.ne2 hq.2.2.2.2.1 hn_14 (hd2 3 5 (by decide) (by decide) (by decide))
          have hc_20 := wy_c.ne2 hq.2.2.2.2.2.1 hn_14 (hd2 4 5 (by decide) (by decide) (by decide))
          have hc_21 := wy_c.ne2 hq.2.2.2.2.2.2.2.1 hn_14 (hd2 6 5 (by decide) (by decide) (by decide))
          have hc_22 := wy_c.ne2 hq.2.2.2.2.2.2.2.2.1 hn_14 (hd2 7 5 (by decide) (by decide) (by decide))
          have hc_23 := wy_c.ne2 hq.2.2.2.2.2.2.2.2.2.1 hn_14 (hd2 8 5 (by decide) (by decide) (by decide))
          have hc_24 := wy_c.ne2 hq.2.2.2.2.2.2.2.2.2.2.1 hn_14 (hd2 9 5 (by decide) (by decide) (by decide))
          refine lv_aload_n hx hb dX2_leave_60 rfl (lv_at hl 1 rfl) ?_
          refine wy_get (ci := 3) (v := .ref (ma 6)) (C := RX2) (T := TX2) (N := 15) hx hb hts hinX2 hown hK hw.1 hc_15 rfl 9 (by decide) (hts (.fieldLink RX2 36 "WheelpayModel" "charge" "[I") (by decide +kernel)) (fun _ h9 => h9) rfl dX2_leave_61 ?_
          refine lv_bipush (v := 10) hx hb dX2_leave_64 (by decide) ?_
          refine lv_iload_n hx hb dX2_leave_66 rfl (lv_at hl 2 rfl) ?_
          refine lv_imul hx hb dX2_leave_67 ?_
          refine lv_topi (fun x_25 ex_25 => ?_)
          have nx_25 : x_25 = nI (10 * (ix p1)) := ex_25.trans ((congr (congrArg (fun u v : Int32 => u * v) (rfl : (10 : Int32) = nI 10)) e1).trans (pk_mul _ _))
          refine lv_iload_n hx hb dX2_leave_68 rfl (lv_at hl 3 rfl) ?_
          refine lv_iadd hx hb dX2_leave_69 ?_
          refine lv_topi (fun x_26 ex_26 => ?_)
          have nx_26 : x_26 = nI (10 * (ix p1) + (ix p2)) := ex_26.trans ((congr (congrArg (fun u v : Int32 => u + v) nx_25) e2).trans (nI_add _ _))
          refine wy_iald hx hb hK hw.1 hc_21 (10 * (ix p1) + (ix p2)) nx_26 (by omega) (by omega) dX2_leave_70 ?_
          rw [show g6 (10 * (ix p1) + (ix p2)) = rch (rr (ix p1)) ((ix p2)) from ((hm.1 (ix p1) (by omega)).2.2.2.2.2 ((ix p2)) (by omega)).2.1]
          obtain ⟨g5_27, eg5_27⟩ : ∃ z, z = upd g5 (10 * (ix p1) + (ix p2)) 0 := ⟨_, rfl⟩
          have hg5_27 : wy_c L f_12 (ma 5) (.inl (G.2 0, 400, .inl g5_27)) := by rw [eg5_27]; exact hs_13
          have hq : wm_S G L f_12 om ma n km mn wk 0 g0 g1 g2 g3 g4 g5_27 g6 g7 g8 g9 := ⟨hc_15, hc_16, hc_17, hc_18, hc_19, hc_20, hg5_27, hc_21, hc_22, hc_23, hc_24, hd1, hd2, (by omega), (by omega)⟩
          have hm : wm_r po (va_up rr (ix p1) (vOut (rr (ix p1)) (ix p2))) g0 g1 g2 g3 g4 g5_27 g6 g7 g8 g9 := by rw [eg5_27]; exact wm_out hm hk40 hr10 nc_7
          exact wy_iW hx hb hr hlocks dX2_leave_71 hw (Nat.le_of_ble_eq_true rfl) (Nat.le_of_ble_eq_true rfl) (wm_ok (by simp [rdC, lvB, bc_2, bc_3, hok1, hok2, hst2]) rfl hq hm)
        · exact absurd rfl c_9
      · have nc_7 : ¬ (stN (rr (ix p1)) (ix p2) = 2) := fun z => c_7 ((wy_eq er_6 (rfl : (2 : Int32) = nI 2) (by first | omega | exact hsN _ _ | exact hdN _ _ | exact Nat.lt_of_le_of_lt (cb_le _ _) (by omega)) (by decide)).mpr z)
        have hst2 : rsd (rr (ix p1)) (ix p2) = false := (by
          cases h : rsd (rr (ix p1)) (ix p2) with
          | false => rfl
          | true => exact absurd ((stN2 (hi _ hk40) hr10 hfinx).mpr h) nc_7)
        refine lv_iconst (v := 2) hx hb dX2_leave_35 (by decide) ?_
        refine lv_goto (tgt := 40) hx hb dX2_leave_36 (by decide) ?_
        refine wy_call (va_runV (As := [.int 2]) (rest := []) ⟨hx, hb, hml, hown, hts⟩ (m_X2_fails l hq (2)) (cwV 1 hts gX2_leave_X2_fails rfl rfl rfl (by decide +kernel) ⟨Nat.le_of_ble_eq_true rfl, Nat.le_of_ble_eq_true rfl⟩) (wy_pVW hK hw hq.1 rfl) rfl rfl hl.1 rfl (lv_room (Nat.le_of_ble_eq_true rfl)) dX2_leave_40 ⟨Nat.le_of_ble_eq_true rfl, Nat.le_of_ble_eq_true rfl⟩) hw hA (fun rw_28 Lw_28 fw_28 H locs hpost hw => ?_)
        obtain ⟨er_28, eL_28, hq⟩ := hpost
        subst er_28
        obtain rfl := eL_28.symm
        rw [show bI (decide ((0 : Int32) < 2)) = 1 from rfl]
        refine lv_if_eq (tgt := 48) hx hb dX2_leave_43 (by decide) (fun c_29 => ?_) (fun c_29 => ?_)
        · exact absurd c_29 (by decide)
        · have bc_29 : (true) = true := bI_1 (fun z => c_29 (rfl.trans z))
          refine lv_iconst (v := 0) hx hb dX2_leave_46 (by decide) ?_
          exact wy_iW hx hb hr hlocks dX2_leave_47 hw (Nat.le_of_ble_eq_true rfl) (Nat.le_of_ble_eq_true rfl) (wm_no (by simp [rdC, lvB, bc_2, bc_3, bc_29, hok1, hok2, hst2]) (by decide) hq hm)
  · have bc_2 : (okN n p1 && okN 10 p2) = false := bI_0 (er_1.symm.trans c_2)
    refine lv_iconst (v := 1) hx hb dX2_leave_12 (by decide) ?_
    refine lv_goto (tgt := 40) hx hb dX2_leave_13 (by decide) ?_
    refine wy_call (va_runV (As := [.int 1]) (rest := []) ⟨hx, hb, hml, hown, hts⟩ (m_X2_fails l hq (1)) (cwV 1 hts gX2_leave_X2_fails rfl rfl rfl (by decide +kernel) ⟨Nat.le_of_ble_eq_true rfl, Nat.le_of_ble_eq_true rfl⟩) (wy_pVW hK hw hq.1 rfl) rfl rfl hl.1 rfl (lv_room (Nat.le_of_ble_eq_true rfl)) dX2_leave_40 ⟨Nat.le_of_ble_eq_true rfl, Nat.le_of_ble_eq_true rfl⟩) hw hA (fun rw_30 Lw_30 fw_30 H locs hpost hw => ?_)
    obtain ⟨er_30, eL_30, hq⟩ := hpost
    subst er_30
    obtain rfl := eL_30.symm
    rw [show bI (decide ((0 : Int32) < 1)) = 1 from rfl]
    refine lv_if_eq (tgt := 48) hx hb dX2_leave_43 (by decide) (fun c_31 => ?_) (fun c_31 => ?_)
    · exact absurd c_31 (by decide)
    · have bc_31 : (true) = true := bI_1 (fun z => c_31 (rfl.trans z))
      refine lv_iconst (v := 0) hx hb dX2_leave_46 (by decide) ?_
      exact wy_iW hx hb hr hlocks dX2_leave_47 hw (Nat.le_of_ble_eq_true rfl) (Nat.le_of_ble_eq_true rfl) (wm_no (by simp [rdC, lvB, bc_2, bc_31]) (by decide) hq hm)
set_option maxHeartbeats 4000000 in
set_option maxRecDepth 100000 in
theorem m_X2_charge (l : Launch) {G : wy_G} {L : List Nat} {f : Nat → va_E} {sz : Nat} {om : Nat} {ma : Nat → Nat} {n : Nat} {km mn : Int32} {wk : Nat} {th : Int32} {po : Nat → Int32} {rr : Nat → wr_V} {g0 g1 g2 g3 g4 g5 g6 g7 g8 g9 : Nat → Int32} {t : Nat} (hq : wm_S G L f om ma n km mn wk th g0 g1 g2 g3 g4 g5 g6 g7 g8 g9) (hm : wm_r po rr g0 g1 g2 g3 g4 g5 g6 g7 g8 g9) (hi : ∀ k, k < 40 → wi t (rr k)) (ht1 : t + 1 ≤ 512) (p1 p2 : Int32) : Met l yX2_charge wsX2_charge ({ frames := 3, cells := 0, slots := 0, locals := 65 } : Room) (va_Pc [.ref om, .int p1, .int p2] (wy_W G L f sz)) (wy_Q G (wm_p G L om ma (if ok2C n p1 p2 = 0 then n else n) (if ok2C n p1 p2 = 0 then km else km) (if ok2C n p1 p2 = 0 then mn else mn) (if ok2C n p1 p2 = 0 then wk else wk) (if ok2C n p1 p2 = 0 then po else po) (if ok2C n p1 p2 = 0 then rr else rr) (ok2C n p1 p2) (some (.int (if ok2C n p1 p2 = 0 then rch (rr (ix p1)) (ix p2) else 0)))) (wy_A L sz)) 0 0 (wy_A L sz) := by
  refine Met.ofW (cc := cX2_charge) (maxL := 3) (ret := (some .int)) (by decide) rfl ?_
  intro p e s m args below meth c s₁ B hml hv
  obtain ⟨rfl, hv⟩ := hv
  obtain ⟨hw, hK, hA⟩ := wy_start hv
  have hsz := hv.1
  subst hsz
  have hx := B.exec
  have hb := B.bytes
  have hr := B.returns
  have hts := atoms_spec (ws := wsX2_charge) B.pre
  have hown : s.vm.findClass RX2 = some m.cls := findClass_of_methodNamed B.named
  have hlocks := B.notSynchronized
  have hinX2 : ∀ w ∈ wsX20, w ∈ wsX2_charge := by decide +kernel
  have hn : n ≤ 40 := hq.2.2.2.2.2.2.2.2.2.2.2.2.2.1
  have hwk : wk ≤ 20 := hq.2.2.2.2.2.2.2.2.2.2.2.2.2.2
  have hsN : ∀ v r, stN v r < 2 ^ 31 := fun v r => by unfold stN; split <;> (try split) <;> (try split) <;> decide
  have hdN : ∀ v r, dpN v r < 2 ^ 31 := fun v r => by unfold dpN; split <;> (try split) <;> (try split) <;> decide
  have hd1 := hq.2.2.2.2.2.2.2.2.2.2.2.1
  have hd2 := hq.2.2.2.2.2.2.2.2.2.2.2.2.1
  have ht : t ≤ 512 := by omega
  have hl := lv_entry ([.ref om, .int p1, .int p2]) (n := 3) (Nat.le_of_ble_eq_true rfl)
  rw [lg_entry_eq]
  generalize (lg_sl ([.ref om, .int p1, .int p2]) ++ List.replicate (3 - (lg_sl ([.ref om, .int p1, .int p2])).length) Slot.unset).toArray = ls at hl ⊢
  have hl : lv_has ls 3 [(0, .ref om), (1, .int p1), (2, .int p2)] := hl
  refine lv_aload_n hx hb dX2_charge_0 rfl (lv_at hl 0 rfl) ?_
  refine lv_aload_n hx hb dX2_charge_1 rfl (lv_at hl 0 rfl) ?_
  refine lv_iload_n hx hb dX2_charge_2 rfl (lv_at hl 1 rfl) ?_
  refine lv_iload_n hx hb dX2_charge_3 rfl (lv_at hl 2 rfl) ?_
  refine vp_callSi (W.runV (As := [.int p1, .int p2]) (rest := [.ref om]) ⟨hx, hb, hml, hown, hts⟩ (m_X2_isRider l hq hm hi ht (p1) (p2)) (cwV 2 hts gX2_charge_X2_isRider rfl rfl rfl (by decide +kernel) ⟨Nat.le_of_ble_eq_true rfl, Nat.le_of_ble_eq_true rfl⟩) (wy_pVR hK hw.1 hq.1 rfl) rfl rfl hl.1 rfl (lv_room (Nat.le_of_ble_eq_true rfl)) dX2_charge_4 ⟨Nat.le_of_ble_eq_true rfl, Nat.le_of_ble_eq_true rfl⟩) (fun r_1 er_1 => ?_)
  refine lv_if_eq (tgt := 14) hx hb dX2_charge_7 (by decide) (fun c_2 => ?_) (fun c_2 => ?_)
  · have bc_2 : (okN n p1 && okN 10 p2) = false := bI_0 (er_1.symm.trans c_2)
    refine lv_iconst (v := 1) hx hb dX2_charge_14 (by decide) ?_
    refine wy_call (va_runV (As := [.int 1]) (rest := []) ⟨hx, hb, hml, hown, hts⟩ (m_X2_fails l hq (1)) (cwV 1 hts gX2_charge_X2_fails rfl rfl rfl (by decide +kernel) ⟨Nat.le_of_ble_eq_true rfl, Nat.le_of_ble_eq_true rfl⟩) (wy_pVW hK hw hq.1 rfl) rfl rfl hl.1 rfl (lv_room (Nat.le_of_ble_eq_true rfl)) dX2_charge_15 ⟨Nat.le_of_ble_eq_true rfl, Nat.le_of_ble_eq_true rfl⟩) hw hA (fun rw_3 Lw_3 fw_3 H locs hpost hw => ?_)
    obtain ⟨er_3, eL_3, hq⟩ := hpost
    subst er_3
    obtain rfl := eL_3.symm
    rw [show bI (decide ((0 : Int32) < 1)) = 1 from rfl]
    refine lv_if_eq (tgt := 25) hx hb dX2_charge_18 (by decide) (fun c_4 => ?_) (fun c_4 => ?_)
    · exact absurd c_4 (by decide)
    · have bc_4 : (true) = true := bI_1 (fun z => c_4 (rfl.trans z))
      refine lv_iconst (v := 0) hx hb dX2_charge_21 (by decide) ?_
      refine lv_goto (tgt := 36) hx hb dX2_charge_22 (by decide) ?_
      exact wy_iW hx hb hr hlocks dX2_charge_36 hw (Nat.le_of_ble_eq_true rfl) (Nat.le_of_ble_eq_true rfl) (wm_no (by simp [ok2C, bc_2, bc_4]) (by decide) hq hm)
  · have bc_2 : (okN n p1 && okN 10 p2) = true := bI_1 (fun z => c_2 (er_1.trans z))
    obtain ⟨hok1, hok2⟩ : okN n p1 = true ∧ okN 10 p2 = true := by simpa using bc_2
    obtain ⟨hk1, e1⟩ := okN_ix hok1 (by omega)
    obtain ⟨hr10, e2⟩ := okN_ix hok2 (by omega)
    have hk40 : ix p1 < 40 := by omega
    refine lv_iconst (v := 0) hx hb dX2_charge_10 (by decide) ?_
    refine lv_goto (tgt := 15) hx hb dX2_charge_11 (by decide) ?_
    refine wy_call (va_runV (As := [.int 0]) (rest := []) ⟨hx, hb, hml, hown, hts⟩ (m_X2_fails l hq (0)) (cwV 1 hts gX2_charge_X2_fails rfl rfl rfl (by decide +kernel) ⟨Nat.le_of_ble_eq_true rfl, Nat.le_of_ble_eq_true rfl⟩) (wy_pVW hK hw hq.1 rfl) rfl rfl hl.1 rfl (lv_room (Nat.le_of_ble_eq_true rfl)) dX2_charge_15 ⟨Nat.le_of_ble_eq_true rfl, Nat.le_of_ble_eq_true rfl⟩) hw hA (fun rw_5 Lw_5 fw_5 H locs hpost hw => ?_)
    obtain ⟨er_5, eL_5, hq⟩ := hpost
    subst er_5
    obtain rfl := eL_5.symm
    rw [show bI (decide ((0 : Int32) < 0)) = 0 from rfl]
    refine lv_if_eq (tgt := 25) hx hb dX2_charge_18 (by decide) (fun c_6 => ?_) (fun c_6 => ?_)
    · have bc_6 : (false) = false := bI_0 (rfl.symm.trans c_6)
      refine lv_aload_n hx hb dX2_charge_25 rfl (lv_at hl 0 rfl) ?_
      refine wy_get (ci := 3) (v := .ref (ma 6)) (C := RX2) (T := TX2) (N := 15) hx hb hts hinX2 hown hK hw.1 hq.1 rfl 9 (by decide) (hts (.fieldLink RX2 36 "WheelpayModel" "charge" "[I") (by decide +kernel)) (fun _ h9 => h9) rfl dX2_charge_26 ?_
      refine lv_bipush (v := 10) hx hb dX2_charge_29 (by decide) ?_
      refine lv_iload_n hx hb dX2_charge_31 rfl (lv_at hl 1 rfl) ?_
      refine lv_imul hx hb dX2_charge_32 ?_
      refine lv_topi (fun x_7 ex_7 => ?_)
      have nx_7 : x_7 = nI (10 * (ix p1)) := ex_7.trans ((congr (congrArg (fun u v : Int32 => u * v) (rfl : (10 : Int32) = nI 10)) e1).trans (pk_mul _ _))
      refine lv_iload_n hx hb dX2_charge_33 rfl (lv_at hl 2 rfl) ?_
      refine lv_iadd hx hb dX2_charge_34 ?_
      refine lv_topi (fun x_8 ex_8 => ?_)
      have nx_8 : x_8 = nI (10 * (ix p1) + (ix p2)) := ex_8.trans ((congr (congrArg (fun u v : Int32 => u + v) nx_7) e2).trans (nI_add _ _))
      refine wy_iald hx hb hK hw.1 hq.2.2.2.2.2.2.2.1 (10 * (ix p1) + (ix p2)) nx_8 (by omega) (by omega) dX2_charge_35 ?_
      rw [show g6 (10 * (ix p1) + (ix p2)) = rch (rr (ix p1)) ((ix p2)) from ((hm.1 (ix p1) (by omega)).2.2.2.2.2 ((ix p2)) (by omega)).2.1]
      exact wy_iW hx hb hr hlocks dX2_charge_36 hw (Nat.le_of_ble_eq_true rfl) (Nat.le_of_ble_eq_true rfl) (wm_ok (by simp [ok2C, bc_2, hok1, hok2]) rfl hq hm)
    · exact absurd rfl c_6
set_option maxHeartbeats 4000000 in
set_option maxRecDepth 100000 in
theorem m_X2_dispute (l : Launch) {G : wy_G} {L : List Nat} {f : Nat → va_E} {sz : Nat} {om : Nat} {ma : Nat → Nat} {n : Nat} {km mn : Int32} {wk : Nat} {th : Int32} {po : Nat → Int32} {rr : Nat → wr_V} {g0 g1 g2 g3 g4 g5 g6 g7 g8 g9 : Nat → Int32} {t : Nat} (hq : wm_S G L f om ma n km mn wk th g0 g1 g2 g3 g4 g5 g6 g7 g8 g9) (hm : wm_r po rr g0 g1 g2 g3 g4 g5 g6 g7 g8 g9) (hi : ∀ k, k < 40 → wi t (rr k)) (ht1 : t + 1 ≤ 512) (p1 p2 : Int32) : Met l yX2_dispute wsX2_dispute ({ frames := 3, cells := 0, slots := 0, locals := 65 } : Room) (va_Pc [.ref om, .int p1, .int p2] (wy_W G L f sz)) (wy_Q G (wm_p G L om ma (if rdC n p1 p2 (dsB (rr (ix p1)) (ix p2)) = 0 then n else n) (if rdC n p1 p2 (dsB (rr (ix p1)) (ix p2)) = 0 then km else km) (if rdC n p1 p2 (dsB (rr (ix p1)) (ix p2)) = 0 then mn else mn) (if rdC n p1 p2 (dsB (rr (ix p1)) (ix p2)) = 0 then wk else wk) (if rdC n p1 p2 (dsB (rr (ix p1)) (ix p2)) = 0 then po else po) (if rdC n p1 p2 (dsB (rr (ix p1)) (ix p2)) = 0 then va_up rr (ix p1) (vDis (rr (ix p1)) (ix p2)) else rr) (rdC n p1 p2 (dsB (rr (ix p1)) (ix p2))) (some (.int (if rdC n p1 p2 (dsB (rr (ix p1)) (ix p2)) = 0 then rch (rr (ix p1)) (ix p2) else 0)))) (wy_A L sz)) 0 0 (wy_A L sz) := by
  refine Met.ofW (cc := cX2_dispute) (maxL := 5) (ret := (some .int)) (by decide) rfl ?_
  intro p e s m args below meth c s₁ B hml hv
  obtain ⟨rfl, hv⟩ := hv
  obtain ⟨hw, hK, hA⟩ := wy_start hv
  have hsz := hv.1
  subst hsz
  have hx := B.exec
  have hb := B.bytes
  have hr := B.returns
  have hts := atoms_spec (ws := wsX2_dispute) B.pre
  have hown : s.vm.findClass RX2 = some m.cls := findClass_of_methodNamed B.named
  have hlocks := B.notSynchronized
  have hinX2 : ∀ w ∈ wsX20, w ∈ wsX2_dispute := by decide +kernel
  have hn : n ≤ 40 := hq.2.2.2.2.2.2.2.2.2.2.2.2.2.1
  have hwk : wk ≤ 20 := hq.2.2.2.2.2.2.2.2.2.2.2.2.2.2
  have hsN : ∀ v r, stN v r < 2 ^ 31 := fun v r => by unfold stN; split <;> (try split) <;> (try split) <;> decide
  have hdN : ∀ v r, dpN v r < 2 ^ 31 := fun v r => by unfold dpN; split <;> (try split) <;> (try split) <;> decide
  have hd1 := hq.2.2.2.2.2.2.2.2.2.2.2.1
  have hd2 := hq.2.2.2.2.2.2.2.2.2.2.2.2.1
  have ht : t ≤ 512 := by omega
  have hl := lv_entry ([.ref om, .int p1, .int p2]) (n := 5) (Nat.le_of_ble_eq_true rfl)
  rw [lg_entry_eq]
  generalize (lg_sl ([.ref om, .int p1, .int p2]) ++ List.replicate (5 - (lg_sl ([.ref om, .int p1, .int p2])).length) Slot.unset).toArray = ls at hl ⊢
  have hl : lv_has ls 5 [(0, .ref om), (1, .int p1), (2, .int p2)] := hl
  refine lv_aload_n hx hb dX2_dispute_0 rfl (lv_at hl 0 rfl) ?_
  refine lv_iload_n hx hb dX2_dispute_1 rfl (lv_at hl 1 rfl) ?_
  refine lv_iload_n hx hb dX2_dispute_2 rfl (lv_at hl 2 rfl) ?_
  refine vp_callSi (W.runV (As := [.int p1, .int p2]) (rest := []) ⟨hx, hb, hml, hown, hts⟩ (m_X2_isRider l hq hm hi ht (p1) (p2)) (cwV 2 hts gX2_dispute_X2_isRider rfl rfl rfl (by decide +kernel) ⟨Nat.le_of_ble_eq_true rfl, Nat.le_of_ble_eq_true rfl⟩) (wy_pVR hK hw.1 hq.1 rfl) rfl rfl hl.1 rfl (lv_room (Nat.le_of_ble_eq_true rfl)) dX2_dispute_3 ⟨Nat.le_of_ble_eq_true rfl, Nat.le_of_ble_eq_true rfl⟩) (fun r_1 er_1 => ?_)
  refine lv_istore_n (lv' := [(3, .int r_1), (0, .ref om), (1, .int p1), (2, .int p2)]) hx hb dX2_dispute_6 rfl hl (by decide) rfl (fun ls hl => ?_)
  refine lv_iload_n hx hb dX2_dispute_7 rfl (lv_at hl 0 rfl) ?_
  refine lv_if_eq (tgt := 20) hx hb dX2_dispute_8 (by decide) (fun c_2 => ?_) (fun c_2 => ?_)
  · have bc_2 : (okN n p1 && okN 10 p2) = false := bI_0 (er_1.symm.trans c_2)
    refine lv_iconst (v := 0) hx hb dX2_dispute_20 (by decide) ?_
    refine lv_istore (lv' := [(4, .int 0), (3, .int r_1), (0, .ref om), (1, .int p1), (2, .int p2)]) hx hb dX2_dispute_21 hl (by decide) rfl (fun ls hl => ?_)
    refine lv_aload_n hx hb dX2_dispute_23 rfl (lv_at hl 2 rfl) ?_
    refine lv_iload_n hx hb dX2_dispute_24 rfl (lv_at hl 1 rfl) ?_
    refine lv_if_ne (tgt := 32) hx hb dX2_dispute_25 (by decide) (fun c_3 => ?_) (fun c_3 => ?_)
    · have bc_3 : (okN n p1 && okN 10 p2) = true := bI_1 (fun z => c_3 (er_1.trans z))
      exact absurd (bc_2.symm.trans bc_3) (by decide)
    · have bc_3 : (okN n p1 && okN 10 p2) = false := bI_0 (er_1.symm.trans c_3)
      refine lv_iconst (v := 1) hx hb dX2_dispute_28 (by decide) ?_
      refine lv_goto (tgt := 66) hx hb dX2_dispute_29 (by decide) ?_
      refine wy_call (va_runV (As := [.int 1]) (rest := []) ⟨hx, hb, hml, hown, hts⟩ (m_X2_fails l hq (1)) (cwV 1 hts gX2_dispute_X2_fails rfl rfl rfl (by decide +kernel) ⟨Nat.le_of_ble_eq_true rfl, Nat.le_of_ble_eq_true rfl⟩) (wy_pVW hK hw hq.1 rfl) rfl rfl hl.1 rfl (lv_room (Nat.le_of_ble_eq_true rfl)) dX2_dispute_66 ⟨Nat.le_of_ble_eq_true rfl, Nat.le_of_ble_eq_true rfl⟩) hw hA (fun rw_4 Lw_4 fw_4 H locs hpost hw => ?_)
      obtain ⟨er_4, eL_4, hq⟩ := hpost
      subst er_4
      obtain rfl := eL_4.symm
      rw [show bI (decide ((0 : Int32) < 1)) = 1 from rfl]
      refine lv_if_eq (tgt := 74) hx hb dX2_dispute_69 (by decide) (fun c_5 => ?_) (fun c_5 => ?_)
      · exact absurd c_5 (by decide)
      · have bc_5 : (true) = true := bI_1 (fun z => c_5 (rfl.trans z))
        refine lv_iconst (v := 0) hx hb dX2_dispute_72 (by decide) ?_
        exact wy_iW hx hb hr hlocks dX2_dispute_73 hw (Nat.le_of_ble_eq_true rfl) (Nat.le_of_ble_eq_true rfl) (wm_no (by simp [rdC, dsB, bc_2, bc_3, bc_5]) (by decide) hq hm)
  · have bc_2 : (okN n p1 && okN 10 p2) = true := bI_1 (fun z => c_2 (er_1.trans z))
    obtain ⟨hok1, hok2⟩ : okN n p1 = true ∧ okN 10 p2 = true := by simpa using bc_2
    obtain ⟨hk1, e1⟩ := okN_ix hok1 (by omega)
    obtain ⟨hr10, e2⟩ := okN_ix hok2 (by omega)
    have hk40 : ix p1 < 40 := by omega
    refine lv_bipush (v := 10) hx hb dX2_dispute_11 (by decide) ?_
    refine lv_iload_n hx hb dX2_dispute_13 rfl (lv_at hl 2 rfl) ?_
    refine lv_imul hx hb dX2_dispute_14 ?_
    refine lv_topi (fun x_6 ex_6 => ?_)
    have nx_6 : x_6 = nI (10 * (ix p1)) := ex_6.trans ((congr (congrArg (fun u v : Int32 => u * v) (rfl : (10 : Int32) = nI 10)) e1).trans (pk_mul _ _))
    refine lv_iload_n hx hb dX2_dispute_15 rfl (lv_at hl 3 rfl) ?_
    refine lv_iadd hx hb dX2_dispute_16 ?_
    refine lv_topi (fun x_7 ex_7 => ?_)
    have nx_7 : x_7 = nI (10 * (ix p1) + (ix p2)) := ex_7.trans ((congr (congrArg (fun u v : Int32 => u + v) nx_6) e2).trans (nI_add _ _))
    refine lv_goto (tgt := 21) hx hb dX2_dispute_17 (by decide) ?_
    refine lv_istore (lv' := [(4, .int x_7), (3, .int r_1), (0, .ref om), (1, .int p1), (2, .int p2)]) hx hb dX2_dispute_21 hl (by decide) rfl (fun ls hl => ?_)
    refine lv_aload_n hx hb dX2_dispute_23 rfl (lv_at hl 2 rfl) ?_
    refine lv_iload_n hx hb dX2_dispute_24 rfl (lv_at hl 1 rfl) ?_
    refine lv_if_ne (tgt := 32) hx hb dX2_dispute_25 (by decide) (fun c_8 => ?_) (fun c_8 => ?_)
    · have bc_8 : (okN n p1 && okN 10 p2) = true := bI_1 (fun z => c_8 (er_1.trans z))
      refine lv_aload_n hx hb dX2_dispute_32 rfl (lv_at hl 2 rfl) ?_
      refine wy_get (ci := 3) (v := .ref (ma 3)) (C := RX2) (T := TX2) (N := 15) hx hb hts hinX2 hown hK hw.1 hq.1 rfl 6 (by decide) (hts (.fieldLink RX2 26 "WheelpayModel" "isDone" "[Z") (by decide +kernel)) (fun _ h9 => h9) rfl dX2_dispute_33 ?_
      refine lv_iload_n hx hb dX2_dispute_36 rfl (lv_at hl 3 rfl) ?_
      refine wy_zald hx hb hK hw.1 hq.2.2.2.2.1 ((ix p1)) e1 (by omega) (by omega) dX2_dispute_37 ?_
      rw [show g3 ((ix p1)) = bI (rfi (rr (ix p1))) from (hm.1 ((ix p1)) (by omega)).2.2.2.1]
      refine lv_if_eq (tgt := 61) hx hb dX2_dispute_38 (by decide) (fun c_9 => ?_) (fun c_9 => ?_)
      · have bc_9 : (rfi (rr (ix p1))) = false := bI_0 (rfl.symm.trans c_9)
        refine lv_iconst (v := 2) hx hb dX2_dispute_61 (by decide) ?_
        refine lv_goto (tgt := 66) hx hb dX2_dispute_62 (by decide) ?_
        refine wy_call (va_runV (As := [.int 2]) (rest := []) ⟨hx, hb, hml, hown, hts⟩ (m_X2_fails l hq (2)) (cwV 1 hts gX2_dispute_X2_fails rfl rfl rfl (by decide +kernel) ⟨Nat.le_of_ble_eq_true rfl, Nat.le_of_ble_eq_true rfl⟩) (wy_pVW hK hw hq.1 rfl) rfl rfl hl.1 rfl (lv_room (Nat.le_of_ble_eq_true rfl)) dX2_dispute_66 ⟨Nat.le_of_ble_eq_true rfl, Nat.le_of_ble_eq_true rfl⟩) hw hA (fun rw_10 Lw_10 fw_10 H locs hpost hw => ?_)
        obtain ⟨er_10, eL_10, hq⟩ := hpost
        subst er_10
        obtain rfl := eL_10.symm
        rw [show bI (decide ((0 : Int32) < 2)) = 1 from rfl]
        refine lv_if_eq (tgt := 74) hx hb dX2_dispute_69 (by decide) (fun c_11 => ?_) (fun c_11 => ?_)
        · exact absurd c_11 (by decide)
        · have bc_11 : (true) = true := bI_1 (fun z => c_11 (rfl.trans z))
          refine lv_iconst (v := 0) hx hb dX2_dispute_72 (by decide) ?_
          exact wy_iW hx hb hr hlocks dX2_dispute_73 hw (Nat.le_of_ble_eq_true rfl) (Nat.le_of_ble_eq_true rfl) (wm_no (by simp [rdC, dsB, bc_2, bc_8, bc_9, bc_11, hok1, hok2]) (by decide) hq hm)
      · have bc_9 : (rfi (rr (ix p1))) = true := bI_1 (fun z => c_9 (rfl.trans z))
        refine lv_aload_n hx hb dX2_dispute_41 rfl (lv_at hl 2 rfl) ?_
        refine wy_get (ci := 3) (v := .ref (ma 6)) (C := RX2) (T := TX2) (N := 15) hx hb hts hinX2 hown hK hw.1 hq.1 rfl 9 (by decide) (hts (.fieldLink RX2 36 "WheelpayModel" "charge" "[I") (by decide +kernel)) (fun _ h9 => h9) rfl dX2_dispute_42 ?_
        refine lv_iload hx hb dX2_dispute_45 (lv_at hl 0 rfl) ?_
        refine wy_iald hx hb hK hw.1 hq.2.2.2.2.2.2.2.1 (10 * (ix p1) + (ix p2)) nx_7 (by omega) (by omega) dX2_dispute_47 ?_
        rw [show g6 (10 * (ix p1) + (ix p2)) = rch (rr (ix p1)) ((ix p2)) from ((hm.1 (ix p1) (by omega)).2.2.2.2.2 ((ix p2)) (by omega)).2.1]
        refine lv_if_eq (tgt := 61) hx hb dX2_dispute_48 (by decide) (fun c_12 => ?_) (fun c_12 => ?_)
        · refine lv_iconst (v := 2) hx hb dX2_dispute_61 (by decide) ?_
          refine lv_goto (tgt := 66) hx hb dX2_dispute_62 (by decide) ?_
          refine wy_call (va_runV (As := [.int 2]) (rest := []) ⟨hx, hb, hml, hown, hts⟩ (m_X2_fails l hq (2)) (cwV 1 hts gX2_dispute_X2_fails rfl rfl rfl (by decide +kernel) ⟨Nat.le_of_ble_eq_true rfl, Nat.le_of_ble_eq_true rfl⟩) (wy_pVW hK hw hq.1 rfl) rfl rfl hl.1 rfl (lv_room (Nat.le_of_ble_eq_true rfl)) dX2_dispute_66 ⟨Nat.le_of_ble_eq_true rfl, Nat.le_of_ble_eq_true rfl⟩) hw hA (fun rw_13 Lw_13 fw_13 H locs hpost hw => ?_)
          obtain ⟨er_13, eL_13, hq⟩ := hpost
          subst er_13
          obtain rfl := eL_13.symm
          rw [show bI (decide ((0 : Int32) < 2)) = 1 from rfl]
          refine lv_if_eq (tgt := 74) hx hb dX2_dispute_69 (by decide) (fun c_14 => ?_) (fun c_14 => ?_)
          · exact absurd c_14 (by decide)
          · have bc_14 : (true) = true := bI_1 (fun z => c_14 (rfl.trans z))
            refine lv_iconst (v := 0) hx hb dX2_dispute_72 (by decide) ?_
            exact wy_iW hx hb hr hlocks dX2_dispute_73 hw (Nat.le_of_ble_eq_true rfl) (Nat.le_of_ble_eq_true rfl) (wm_no (by simp [rdC, dsB, bc_2, bc_8, bc_9, bc_14, hok1, hok2, c_12]) (by decide) hq hm)
        · refine lv_aload_n hx hb dX2_dispute_51 rfl (lv_at hl 2 rfl) ?_
          refine wy_get (ci := 3) (v := .ref (ma 7)) (C := RX2) (T := TX2) (N := 15) hx hb hts hinX2 hown hK hw.1 hq.1 rfl 10 (by decide) (hts (.fieldLink RX2 39 "WheelpayModel" "dispute" "[I") (by decide +kernel)) (fun _ h9 => h9) rfl dX2_dispute_52 ?_
          refine lv_iload hx hb dX2_dispute_55 (lv_at hl 0 rfl) ?_
          refine wy_iald hx hb hK hw.1 hq.2.2.2.2.2.2.2.2.1 (10 * (ix p1) + (ix p2)) nx_7 (by omega) (by omega) dX2_dispute_57 ?_
          rw [show g7 (10 * (ix p1) + (ix p2)) = nI (dpN (rr (ix p1)) ((ix p2))) from ((hm.1 (ix p1) (by omega)).2.2.2.2.2 ((ix p2)) (by omega)).2.2.1]
          refine lv_if_le (tgt := 65) hx hb dX2_dispute_58 (by decide) (fun c_15 => ?_) (fun c_15 => ?_)
          · have hdp0 : rdp (rr (ix p1)) (ix p2) = false := dpN0.mp (Nat.le_zero.mp ((wy_le (rfl : nI (dpN (rr (ix p1)) (ix p2)) = nI (dpN (rr (ix p1)) (ix p2))) (rfl : (0 : Int32) = nI 0) (hdN _ _) (by decide)).mp c_15))
            refine lv_iconst (v := 0) hx hb dX2_dispute_65 (by decide) ?_
            refine wy_call (va_runV (As := [.int 0]) (rest := []) ⟨hx, hb, hml, hown, hts⟩ (m_X2_fails l hq (0)) (cwV 1 hts gX2_dispute_X2_fails rfl rfl rfl (by decide +kernel) ⟨Nat.le_of_ble_eq_true rfl, Nat.le_of_ble_eq_true rfl⟩) (wy_pVW hK hw hq.1 rfl) rfl rfl hl.1 rfl (lv_room (Nat.le_of_ble_eq_true rfl)) dX2_dispute_66 ⟨Nat.le_of_ble_eq_true rfl, Nat.le_of_ble_eq_true rfl⟩) hw hA (fun rw_16 Lw_16 fw_16 H locs hpost hw => ?_)
            obtain ⟨er_16, eL_16, hq⟩ := hpost
            subst er_16
            obtain rfl := eL_16.symm
            rw [show bI (decide ((0 : Int32) < 0)) = 0 from rfl]
            refine lv_if_eq (tgt := 74) hx hb dX2_dispute_69 (by decide) (fun c_17 => ?_) (fun c_17 => ?_)
            · have bc_17 : (false) = false := bI_0 (rfl.symm.trans c_17)
              refine lv_aload_n hx hb dX2_dispute_74 rfl (lv_at hl 2 rfl) ?_
              refine wy_get (ci := 3) (v := .ref (ma 7)) (C := RX2) (T := TX2) (N := 15) hx hb hts hinX2 hown hK hw.1 hq.1 rfl 10 (by decide) (hts (.fieldLink RX2 39 "WheelpayModel" "dispute" "[I") (by decide +kernel)) (fun _ h9 => h9) rfl dX2_dispute_75 ?_
              refine lv_iload hx hb dX2_dispute_78 (lv_at hl 0 rfl) ?_
              refine lv_iconst (v := 1) hx hb dX2_dispute_80 (by decide) ?_
              refine wy_iast hx hb hK hw hq.2.2.2.2.2.2.2.2.1 (10 * (ix p1) + (ix p2)) nx_7 (by omega) (by omega) dX2_dispute_81 (fun H locs f_18 hs_19 hn_20 hw => ?_)
              have hc_21 := wy_c.ne2 hq.1 hn_20 (hd1 7 (by decide))
              have hc_22 := wy_c.ne2 hq.2.1 hn_20 (hd2 0 7 (by decide) (by decide) (by decide))
              have hc_23 := wy_c.ne2 hq.2.2.1 hn_20 (hd2 1 7 (by decide) (by decide) (by decide))
              have hc_24 := wy_c.ne2 hq.2.2.2.1 hn_20 (hd2 2 7 (by decide) (by decide) (by decide))
              have hc_25 := wy_c.ne2 hq.2.2.2.2.1 hn_20 (hd2 3 7 (by decide) (by decide) (by decide))
              have hc_26 := wy_c.ne2 hq.2.2.2.2.2.1 hn_20 (hd2 4 7 (by decide) (by decide) (by decide))
              have hc_27 := wy_c.ne2 hq.2.2.2.2.2.2.1 hn_20 (hd2 5 7 (by decide) (by decide) (by decide))
              have hc_28 := wy_c.ne2 hq.2.2.2.2.2.2.2.1 hn_20 (hd2 6 7 (by decide) (by decide) (by decide))
              have hc_29 := wy_c.ne2 hq.2.2.2.2.2.2.2.2.2.1 hn_20 (hd2 8 7 (by decide) (by decide) (by decide))
              have hc_30 := wy_c.ne2 hq.2.2.2.2.2.2.2.2.2.2.1 hn_20 (hd2 9 7 (by decide) (by decide) (by decide))
              refine lv_aload_n hx hb dX2_dispute_82 rfl (lv_at hl 2 rfl) ?_
              refine wy_get (ci := 3) (v := .ref (ma 6)) (C := RX2) (T := TX2) (N := 15) hx hb hts hinX2 hown hK hw.1 hc_21 rfl 9 (by decide) (hts (.fieldLink RX2 36 "WheelpayModel" "charge" "[I") (by decide +kernel)) (fun _ h9 => h9) rfl dX2_dispute_83 ?_
              refine lv_iload hx hb dX2_dispute_86 (lv_at hl 0 rfl) ?_
              refine wy_iald hx hb hK hw.1 hc_28 (10 * (ix p1) + (ix p2)) nx_7 (by omega) (by omega) dX2_dispute_88 ?_
              rw [show g6 (10 * (ix p1) + (ix p2)) = rch (rr (ix p1)) ((ix p2)) from ((hm.1 (ix p1) (by omega)).2.2.2.2.2 ((ix p2)) (by omega)).2.1]
              obtain ⟨g7_31, eg7_31⟩ : ∃ z, z = upd g7 (10 * (ix p1) + (ix p2)) 1 := ⟨_, rfl⟩
              have hg7_31 : wy_c L f_18 (ma 7) (.inl (G.2 0, 400, .inl g7_31)) := by rw [eg7_31]; exact hs_19
              have hq : wm_S G L f_18 om ma n km mn wk 0 g0 g1 g2 g3 g4 g5 g6 g7_31 g8 g9 := ⟨hc_21, hc_22, hc_23, hc_24, hc_25, hc_26, hc_27, hc_28, hg7_31, hc_29, hc_30, hd1, hd2, (by omega), (by omega)⟩
              have hm : wm_r po (va_up rr (ix p1) (vDis (rr (ix p1)) (ix p2))) g0 g1 g2 g3 g4 g5 g6 g7_31 g8 g9 := by rw [eg7_31]; exact wm_dis hm (hi _ hk40) hk40 hr10 hdp0
              exact wy_iW hx hb hr hlocks dX2_dispute_89 hw (Nat.le_of_ble_eq_true rfl) (Nat.le_of_ble_eq_true rfl) (wm_ok (by simp [rdC, dsB, bc_2, bc_8, bc_9, hok1, hok2, c_12, hdp0]) rfl hq hm)
            · exact absurd rfl c_17
          · have hdp0 : rdp (rr (ix p1)) (ix p2) = true := (by
              cases h : rdp (rr (ix p1)) (ix p2) with
              | true => rfl
              | false => exact absurd (by rw [dpN0.mpr h]; decide) c_15)
            refine lv_iconst (v := 2) hx hb dX2_dispute_61 (by decide) ?_
            refine lv_goto (tgt := 66) hx hb dX2_dispute_62 (by decide) ?_
            refine wy_call (va_runV (As := [.int 2]) (rest := []) ⟨hx, hb, hml, hown, hts⟩ (m_X2_fails l hq (2)) (cwV 1 hts gX2_dispute_X2_fails rfl rfl rfl (by decide +kernel) ⟨Nat.le_of_ble_eq_true rfl, Nat.le_of_ble_eq_true rfl⟩) (wy_pVW hK hw hq.1 rfl) rfl rfl hl.1 rfl (lv_room (Nat.le_of_ble_eq_true rfl)) dX2_dispute_66 ⟨Nat.le_of_ble_eq_true rfl, Nat.le_of_ble_eq_true rfl⟩) hw hA (fun rw_32 Lw_32 fw_32 H locs hpost hw => ?_)
            obtain ⟨er_32, eL_32, hq⟩ := hpost
            subst er_32
            obtain rfl := eL_32.symm
            rw [show bI (decide ((0 : Int32) < 2)) = 1 from rfl]
            refine lv_if_eq (tgt := 74) hx hb dX2_dispute_69 (by decide) (fun c_33 => ?_) (fun c_33 => ?_)
            · exact absurd c_33 (by decide)
            · have bc_33 : (true) = true := bI_1 (fun z => c_33 (rfl.trans z))
              refine lv_iconst (v := 0) hx hb dX2_dispute_72 (by decide) ?_
              exact wy_iW hx hb hr hlocks dX2_dispute_73 hw (Nat.le_of_ble_eq_true rfl) (Nat.le_of_ble_eq_true rfl) (wm_no (by simp [rdC, dsB, bc_2, bc_8, bc_9, bc_33, hok1, hok2, c_12, hdp0]) (by decide) hq hm)
    · have bc_8 : (okN n p1 && okN 10 p2) = false := bI_0 (er_1.symm.trans c_8)
      exact absurd (bc_2.symm.trans bc_8) (by decide)
set_option maxHeartbeats 4000000 in
set_option maxRecDepth 100000 in
theorem m_X2_settle (l : Launch) {G : wy_G} {L : List Nat} {f : Nat → va_E} {sz : Nat} {om : Nat} {ma : Nat → Nat} {n : Nat} {km mn : Int32} {wk : Nat} {th : Int32} {po : Nat → Int32} {rr : Nat → wr_V} {g0 g1 g2 g3 g4 g5 g6 g7 g8 g9 : Nat → Int32} {t : Nat} (hq : wm_S G L f om ma n km mn wk th g0 g1 g2 g3 g4 g5 g6 g7 g8 g9) (hm : wm_r po rr g0 g1 g2 g3 g4 g5 g6 g7 g8 g9) (hi : ∀ k, k < 40 → wi t (rr k)) (ht1 : t + 1 ≤ 512) (p1 p2 : Int32) (p3 : Int32) (bb : Bool) : Met l yX2_settle wsX2_settle ({ frames := 3, cells := 0, slots := 0, locals := 65 } : Room) (va_Pc [.ref om, .int p1, .int p2, .int p3, .int (bI bb)] (wy_W G L f sz)) (wy_Q G (wm_p G L om ma (if slC n p1 p2 p3 (!rdp (rr (ix p1)) (ix p2) || rse (rr (ix p1)) (ix p2)) = 0 then n else n) (if slC n p1 p2 p3 (!rdp (rr (ix p1)) (ix p2) || rse (rr (ix p1)) (ix p2)) = 0 then km else km) (if slC n p1 p2 p3 (!rdp (rr (ix p1)) (ix p2) || rse (rr (ix p1)) (ix p2)) = 0 then mn else mn) (if slC n p1 p2 p3 (!rdp (rr (ix p1)) (ix p2) || rse (rr (ix p1)) (ix p2)) = 0 then wk else wk) (if slC n p1 p2 p3 (!rdp (rr (ix p1)) (ix p2) || rse (rr (ix p1)) (ix p2)) = 0 then po else po) (if slC n p1 p2 p3 (!rdp (rr (ix p1)) (ix p2) || rse (rr (ix p1)) (ix p2)) = 0 then va_up rr (ix p1) (vRef (rr (ix p1)) (ix p2) p3 bb) else rr) (slC n p1 p2 p3 (!rdp (rr (ix p1)) (ix p2) || rse (rr (ix p1)) (ix p2))) (some (.int (if slC n p1 p2 p3 (!rdp (rr (ix p1)) (ix p2) || rse (rr (ix p1)) (ix p2)) = 0 then rfv (rr (ix p1)) (ix p2) p3 else 0)))) (wy_A L sz)) 0 0 (wy_A L sz) := by
  refine Met.ofW (cc := cX2_settle) (maxL := 7) (ret := (some .int)) (by decide) rfl ?_
  intro p e s m args below meth c s₁ B hml hv
  obtain ⟨rfl, hv⟩ := hv
  obtain ⟨hw, hK, hA⟩ := wy_start hv
  have hsz := hv.1
  subst hsz
  have hx := B.exec
  have hb := B.bytes
  have hr := B.returns
  have hts := atoms_spec (ws := wsX2_settle) B.pre
  have hown : s.vm.findClass RX2 = some m.cls := findClass_of_methodNamed B.named
  have hlocks := B.notSynchronized
  have hinX2 : ∀ w ∈ wsX20, w ∈ wsX2_settle := by decide +kernel
  have hn : n ≤ 40 := hq.2.2.2.2.2.2.2.2.2.2.2.2.2.1
  have hwk : wk ≤ 20 := hq.2.2.2.2.2.2.2.2.2.2.2.2.2.2
  have hsN : ∀ v r, stN v r < 2 ^ 31 := fun v r => by unfold stN; split <;> (try split) <;> (try split) <;> decide
  have hdN : ∀ v r, dpN v r < 2 ^ 31 := fun v r => by unfold dpN; split <;> (try split) <;> (try split) <;> decide
  have hd1 := hq.2.2.2.2.2.2.2.2.2.2.2.1
  have hd2 := hq.2.2.2.2.2.2.2.2.2.2.2.2.1
  have ht : t ≤ 512 := by omega
  have hl := lv_entry ([.ref om, .int p1, .int p2, .int p3, .int (bI bb)]) (n := 7) (Nat.le_of_ble_eq_true rfl)
  rw [lg_entry_eq]
  generalize (lg_sl ([.ref om, .int p1, .int p2, .int p3, .int (bI bb)]) ++ List.replicate (7 - (lg_sl ([.ref om, .int p1, .int p2, .int p3, .int (bI bb)])).length) Slot.unset).toArray = ls at hl ⊢
  have hl : lv_has ls 7 [(0, .ref om), (1, .int p1), (2, .int p2), (3, .int p3), (4, .int (bI bb))] := hl
  refine lv_aload_n hx hb dX2_settle_0 rfl (lv_at hl 0 rfl) ?_
  refine lv_iload_n hx hb dX2_settle_1 rfl (lv_at hl 1 rfl) ?_
  refine lv_iload_n hx hb dX2_settle_2 rfl (lv_at hl 2 rfl) ?_
  refine vp_callSi (W.runV (As := [.int p1, .int p2]) (rest := []) ⟨hx, hb, hml, hown, hts⟩ (m_X2_isRider l hq hm hi ht (p1) (p2)) (cwV 2 hts gX2_settle_X2_isRider rfl rfl rfl (by decide +kernel) ⟨Nat.le_of_ble_eq_true rfl, Nat.le_of_ble_eq_true rfl⟩) (wy_pVR hK hw.1 hq.1 rfl) rfl rfl hl.1 rfl (lv_room (Nat.le_of_ble_eq_true rfl)) dX2_settle_3 ⟨Nat.le_of_ble_eq_true rfl, Nat.le_of_ble_eq_true rfl⟩) (fun r_1 er_1 => ?_)
  refine lv_istore (lv' := [(5, .int r_1), (0, .ref om), (1, .int p1), (2, .int p2), (3, .int p3), (4, .int (bI bb))]) hx hb dX2_settle_6 hl (by decide) rfl (fun ls hl => ?_)
  refine lv_iload hx hb dX2_settle_8 (lv_at hl 0 rfl) ?_
  refine lv_if_eq (tgt := 22) hx hb dX2_settle_10 (by decide) (fun c_2 => ?_) (fun c_2 => ?_)
  · have bc_2 : (okN n p1 && okN 10 p2) = false := bI_0 (er_1.symm.trans c_2)
    refine lv_iconst (v := 0) hx hb dX2_settle_22 (by decide) ?_
    refine lv_istore (lv' := [(6, .int 0), (5, .int r_1), (0, .ref om), (1, .int p1), (2, .int p2), (3, .int p3), (4, .int (bI bb))]) hx hb dX2_settle_23 hl (by decide) rfl (fun ls hl => ?_)
    refine lv_aload_n hx hb dX2_settle_25 rfl (lv_at hl 2 rfl) ?_
    refine lv_iload hx hb dX2_settle_26 (lv_at hl 1 rfl) ?_
    refine lv_if_ne (tgt := 35) hx hb dX2_settle_28 (by decide) (fun c_3 => ?_) (fun c_3 => ?_)
    · have bc_3 : (okN n p1 && okN 10 p2) = true := bI_1 (fun z => c_3 (er_1.trans z))
      exact absurd (bc_2.symm.trans bc_3) (by decide)
    · have bc_3 : (okN n p1 && okN 10 p2) = false := bI_0 (er_1.symm.trans c_3)
      refine lv_iconst (v := 1) hx hb dX2_settle_31 (by decide) ?_
      refine lv_goto (tgt := 65) hx hb dX2_settle_32 (by decide) ?_
      refine wy_call (va_runV (As := [.int 1]) (rest := []) ⟨hx, hb, hml, hown, hts⟩ (m_X2_fails l hq (1)) (cwV 1 hts gX2_settle_X2_fails rfl rfl rfl (by decide +kernel) ⟨Nat.le_of_ble_eq_true rfl, Nat.le_of_ble_eq_true rfl⟩) (wy_pVW hK hw hq.1 rfl) rfl rfl hl.1 rfl (lv_room (Nat.le_of_ble_eq_true rfl)) dX2_settle_65 ⟨Nat.le_of_ble_eq_true rfl, Nat.le_of_ble_eq_true rfl⟩) hw hA (fun rw_4 Lw_4 fw_4 H locs hpost hw => ?_)
      obtain ⟨er_4, eL_4, hq⟩ := hpost
      subst er_4
      obtain rfl := eL_4.symm
      rw [show bI (decide ((0 : Int32) < 1)) = 1 from rfl]
      refine lv_if_eq (tgt := 73) hx hb dX2_settle_68 (by decide) (fun c_5 => ?_) (fun c_5 => ?_)
      · exact absurd c_5 (by decide)
      · have bc_5 : (true) = true := bI_1 (fun z => c_5 (rfl.trans z))
        refine lv_iconst (v := 0) hx hb dX2_settle_71 (by decide) ?_
        exact wy_iW hx hb hr hlocks dX2_settle_72 hw (Nat.le_of_ble_eq_true rfl) (Nat.le_of_ble_eq_true rfl) (wm_no (by simp [slC, bc_2, bc_3, bc_5]) (by decide) hq hm)
  · have bc_2 : (okN n p1 && okN 10 p2) = true := bI_1 (fun z => c_2 (er_1.trans z))
    obtain ⟨hok1, hok2⟩ : okN n p1 = true ∧ okN 10 p2 = true := by simpa using bc_2
    obtain ⟨hk1, e1⟩ := okN_ix hok1 (by omega)
    obtain ⟨hr10, e2⟩ := okN_ix hok2 (by omega)
    have hk40 : ix p1 < 40 := by omega
    refine lv_bipush (v := 10) hx hb dX2_settle_13 (by decide) ?_
    refine lv_iload_n hx hb dX2_settle_15 rfl (lv_at hl 2 rfl) ?_
    refine lv_imul hx hb dX2_settle_16 ?_
    refine lv_topi (fun x_6 ex_6 => ?_)
    have nx_6 : x_6 = nI (10 * (ix p1)) := ex_6.trans ((congr (congrArg (fun u v : Int32 => u * v) (rfl : (10 : Int32) = nI 10)) e1).trans (pk_mul _ _))
    refine lv_iload_n hx hb dX2_settle_17 rfl (lv_at hl 3 rfl) ?_
    refine lv_iadd hx hb dX2_settle_18 ?_
    refine lv_topi (fun x_7 ex_7 => ?_)
    have nx_7 : x_7 = nI (10 * (ix p1) + (ix p2)) := ex_7.trans ((congr (congrArg (fun u v : Int32 => u + v) nx_6) e2).trans (nI_add _ _))
    refine lv_goto (tgt := 23) hx hb dX2_settle_19 (by decide) ?_
    refine lv_istore (lv' := [(6, .int x_7), (5, .int r_1), (0, .ref om), (1, .int p1), (2, .int p2), (3, .int p3), (4, .int (bI bb))]) hx hb dX2_settle_23 hl (by decide) rfl (fun ls hl => ?_)
    refine lv_aload_n hx hb dX2_settle_25 rfl (lv_at hl 2 rfl) ?_
    refine lv_iload hx hb dX2_settle_26 (lv_at hl 1 rfl) ?_
    refine lv_if_ne (tgt := 35) hx hb dX2_settle_28 (by decide) (fun c_8 => ?_) (fun c_8 => ?_)
    · have bc_8 : (okN n p1 && okN 10 p2) = true := bI_1 (fun z => c_8 (er_1.trans z))
      refine lv_iload_n hx hb dX2_settle_35 rfl (lv_at hl 5 rfl) ?_
      refine lv_iconst (v := 0) hx hb dX2_settle_36 (by decide) ?_
      refine lv_bipush (v := 100) hx hb dX2_settle_37 (by decide) ?_
      refine vp_callSi (W.runS (As := [.int p3, .int 0, .int 100]) (rest := [.ref om]) ⟨hx, hb, hml, hown, hts⟩ (m_X2_isIn l (p3) (0) (100)) (va_cwS 3 hts gX2_settle_X2_isIn rfl rfl rfl (by decide +kernel) ⟨Nat.le_of_ble_eq_true rfl, Nat.le_of_ble_eq_true rfl⟩) (wy_pSN) rfl rfl hl.1 rfl (lv_room (Nat.le_of_ble_eq_true rfl)) dX2_settle_39 ⟨Nat.le_of_ble_eq_true rfl, Nat.le_of_ble_eq_true rfl⟩) (fun r_9 er_9 => ?_)
      refine lv_if_ne (tgt := 49) hx hb dX2_settle_42 (by decide) (fun c_10 => ?_) (fun c_10 => ?_)
      · have bc_10 : (rngB p3 0 100) = true := bI_1 (fun z => c_10 (er_9.trans z))
        refine lv_aload_n hx hb dX2_settle_49 rfl (lv_at hl 2 rfl) ?_
        refine wy_get (ci := 3) (v := .ref (ma 7)) (C := RX2) (T := TX2) (N := 15) hx hb hts hinX2 hown hK hw.1 hq.1 rfl 10 (by decide) (hts (.fieldLink RX2 39 "WheelpayModel" "dispute" "[I") (by decide +kernel)) (fun _ h9 => h9) rfl dX2_settle_50 ?_
        refine lv_iload hx hb dX2_settle_53 (lv_at hl 0 rfl) ?_
        refine wy_iald hx hb hK hw.1 hq.2.2.2.2.2.2.2.2.1 (10 * (ix p1) + (ix p2)) nx_7 (by omega) (by omega) dX2_settle_55 ?_
        rw [show g7 (10 * (ix p1) + (ix p2)) = nI (dpN (rr (ix p1)) ((ix p2))) from ((hm.1 (ix p1) (by omega)).2.2.2.2.2 ((ix p2)) (by omega)).2.2.1]
        refine lv_iconst (v := 1) hx hb dX2_settle_56 (by decide) ?_
        refine lv_icmp_ne (tgt := 64) hx hb dX2_settle_57 (by decide) (fun c_11 => ?_) (fun c_11 => ?_)
        · have nc_11 : ¬ (dpN (rr (ix p1)) ((ix p2)) = 1) := fun z => c_11 ((wy_eq rfl (rfl : (1 : Int32) = nI 1) (by first | omega | exact hsN _ _ | exact hdN _ _ | exact Nat.lt_of_le_of_lt (cb_le _ _) (by omega)) (by decide)).mpr z)
          have hdp1 : (!rdp (rr (ix p1)) (ix p2) || rse (rr (ix p1)) (ix p2)) = true := (by
            cases h : (!rdp (rr (ix p1)) (ix p2) || rse (rr (ix p1)) (ix p2)) with
            | true => rfl
            | false => exact absurd (dpN1.mpr h) nc_11)
          refine lv_iconst (v := 3) hx hb dX2_settle_64 (by decide) ?_
          refine wy_call (va_runV (As := [.int 3]) (rest := []) ⟨hx, hb, hml, hown, hts⟩ (m_X2_fails l hq (3)) (cwV 1 hts gX2_settle_X2_fails rfl rfl rfl (by decide +kernel) ⟨Nat.le_of_ble_eq_true rfl, Nat.le_of_ble_eq_true rfl⟩) (wy_pVW hK hw hq.1 rfl) rfl rfl hl.1 rfl (lv_room (Nat.le_of_ble_eq_true rfl)) dX2_settle_65 ⟨Nat.le_of_ble_eq_true rfl, Nat.le_of_ble_eq_true rfl⟩) hw hA (fun rw_12 Lw_12 fw_12 H locs hpost hw => ?_)
          obtain ⟨er_12, eL_12, hq⟩ := hpost
          subst er_12
          obtain rfl := eL_12.symm
          rw [show bI (decide ((0 : Int32) < 3)) = 1 from rfl]
          refine lv_if_eq (tgt := 73) hx hb dX2_settle_68 (by decide) (fun c_13 => ?_) (fun c_13 => ?_)
          · exact absurd c_13 (by decide)
          · have bc_13 : (true) = true := bI_1 (fun z => c_13 (rfl.trans z))
            refine lv_iconst (v := 0) hx hb dX2_settle_71 (by decide) ?_
            exact wy_iW hx hb hr hlocks dX2_settle_72 hw (Nat.le_of_ble_eq_true rfl) (Nat.le_of_ble_eq_true rfl) (wm_no (by simp [slC, bc_2, bc_8, bc_10, bc_13, hok1, hok2, hdp1]) (by decide) hq hm)
        · have nc_11 : dpN (rr (ix p1)) ((ix p2)) = 1 := (wy_eq rfl (rfl : (1 : Int32) = nI 1) (by first | omega | exact hsN _ _ | exact hdN _ _ | exact Nat.lt_of_le_of_lt (cb_le _ _) (by omega)) (by decide)).mp c_11
          have hdp1 : (!rdp (rr (ix p1)) (ix p2) || rse (rr (ix p1)) (ix p2)) = false := dpN1.mp nc_11
          refine lv_iconst (v := 0) hx hb dX2_settle_60 (by decide) ?_
          refine lv_goto (tgt := 65) hx hb dX2_settle_61 (by decide) ?_
          refine wy_call (va_runV (As := [.int 0]) (rest := []) ⟨hx, hb, hml, hown, hts⟩ (m_X2_fails l hq (0)) (cwV 1 hts gX2_settle_X2_fails rfl rfl rfl (by decide +kernel) ⟨Nat.le_of_ble_eq_true rfl, Nat.le_of_ble_eq_true rfl⟩) (wy_pVW hK hw hq.1 rfl) rfl rfl hl.1 rfl (lv_room (Nat.le_of_ble_eq_true rfl)) dX2_settle_65 ⟨Nat.le_of_ble_eq_true rfl, Nat.le_of_ble_eq_true rfl⟩) hw hA (fun rw_14 Lw_14 fw_14 H locs hpost hw => ?_)
          obtain ⟨er_14, eL_14, hq⟩ := hpost
          subst er_14
          obtain rfl := eL_14.symm
          rw [show bI (decide ((0 : Int32) < 0)) = 0 from rfl]
          refine lv_if_eq (tgt := 73) hx hb dX2_settle_68 (by decide) (fun c_15 => ?_) (fun c_15 => ?_)
          · have bc_15 : (false) = false := bI_0 (rfl.symm.trans c_15)
            refine lv_aload_n hx hb dX2_settle_73 rfl (lv_at hl 2 rfl) ?_
            refine wy_get (ci := 3) (v := .ref (ma 7)) (C := RX2) (T := TX2) (N := 15) hx hb hts hinX2 hown hK hw.1 hq.1 rfl 10 (by decide) (hts (.fieldLink RX2 39 "WheelpayModel" "dispute" "[I") (by decide +kernel)) (fun _ h9 => h9) rfl dX2_settle_74 ?_
            refine lv_iload hx hb dX2_settle_77 (lv_at hl 0 rfl) ?_
            refine lv_iload hx hb dX2_settle_79 (lv_at hl 6 rfl) ?_
            refine lv_if_eq (tgt := 88) hx hb dX2_settle_81 (by decide) (fun c_16 => ?_) (fun c_16 => ?_)
            · have bc_16 : (bb) = false := bI_0 (rfl.symm.trans c_16)
              subst bc_16
              refine lv_iconst (v := 2) hx hb dX2_settle_88 (by decide) ?_
              refine wy_iast hx hb hK hw hq.2.2.2.2.2.2.2.2.1 (10 * (ix p1) + (ix p2)) nx_7 (by omega) (by omega) dX2_settle_89 (fun H locs f_17 hs_18 hn_19 hw => ?_)
              have hc_20 := wy_c.ne2 hq.1 hn_19 (hd1 7 (by decide))
              have hc_21 := wy_c.ne2 hq.2.1 hn_19 (hd2 0 7 (by decide) (by decide) (by decide))
              have hc_22 := wy_c.ne2 hq.2.2.1 hn_19 (hd2 1 7 (by decide) (by decide) (by decide))
              have hc_23 := wy_c.ne2 hq.2.2.2.1 hn_19 (hd2 2 7 (by decide) (by decide) (by decide))
              have hc_24 := wy_c.ne2 hq.2.2.2.2.1 hn_19 (hd2 3 7 (by decide) (by decide) (by decide))
              have hc_25 := wy_c.ne2 hq.2.2.2.2.2.1 hn_19 (hd2 4 7 (by decide) (by decide) (by decide))
              have hc_26 := wy_c.ne2 hq.2.2.2.2.2.2.1 hn_19 (hd2 5 7 (by decide) (by decide) (by decide))
              have hc_27 := wy_c.ne2 hq.2.2.2.2.2.2.2.1 hn_19 (hd2 6 7 (by decide) (by decide) (by decide))
              have hc_28 := wy_c.ne2 hq.2.2.2.2.2.2.2.2.2.1 hn_19 (hd2 8 7 (by decide) (by decide) (by decide))
              have hc_29 := wy_c.ne2 hq.2.2.2.2.2.2.2.2.2.2.1 hn_19 (hd2 9 7 (by decide) (by decide) (by decide))
              refine lv_aload_n hx hb dX2_settle_90 rfl (lv_at hl 2 rfl) ?_
              refine wy_get (ci := 3) (v := .ref (ma 8)) (C := RX2) (T := TX2) (N := 15) hx hb hts hinX2 hown hK hw.1 hc_20 rfl 11 (by decide) (hts (.fieldLink RX2 42 "WheelpayModel" "refund" "[I") (by decide +kernel)) (fun _ h9 => h9) rfl dX2_settle_91 ?_
              refine lv_iload hx hb dX2_settle_94 (lv_at hl 0 rfl) ?_
              refine lv_aload_n hx hb dX2_settle_96 rfl (lv_at hl 2 rfl) ?_
              refine wy_get (ci := 3) (v := .ref (ma 6)) (C := RX2) (T := TX2) (N := 15) hx hb hts hinX2 hown hK hw.1 hc_20 rfl 9 (by decide) (hts (.fieldLink RX2 36 "WheelpayModel" "charge" "[I") (by decide +kernel)) (fun _ h9 => h9) rfl dX2_settle_97 ?_
              refine lv_iload hx hb dX2_settle_100 (lv_at hl 0 rfl) ?_
              refine wy_iald hx hb hK hw.1 hc_27 (10 * (ix p1) + (ix p2)) nx_7 (by omega) (by omega) dX2_settle_102 ?_
              rw [show g6 (10 * (ix p1) + (ix p2)) = rch (rr (ix p1)) ((ix p2)) from ((hm.1 (ix p1) (by omega)).2.2.2.2.2 ((ix p2)) (by omega)).2.1]
              refine lv_i2l (v := (rch (rr (ix p1)) ((ix p2))).toInt64) hx hb dX2_settle_103 rfl ?_
              refine lv_iload_n hx hb dX2_settle_104 rfl (lv_at hl 5 rfl) ?_
              refine lv_i2l (v := p3.toInt64) hx hb dX2_settle_105 rfl ?_
              refine lv_lmul hx hb dX2_settle_106 ?_
              refine lv_ldc2 (v := 100) hx hb hown (hts (.constantLong RX2 92 (100)) (by decide +kernel)) dX2_settle_107 ?_
              refine lv_ldiv hx hb dX2_settle_110 (by decide) ?_
              refine lv_l2i (v := ((((rch (rr (ix p1)) ((ix p2))).toInt64) * p3.toInt64) / (100 : Int64)).toInt32) hx hb dX2_settle_111 rfl ?_
              refine lv_topi (fun x_32 ex_32 => ?_)
              obtain rfl : x_32 = rfv (rr (ix p1)) (ix p2) p3 := by simp only [er_1, ex_6, ex_7, er_9, ex_32]; rfl
              refine wy_iast hx hb hK hw hc_28 (10 * (ix p1) + (ix p2)) nx_7 (by omega) (by omega) dX2_settle_112 (fun H locs f_33 hs_34 hn_35 hw => ?_)
              have hc_36 := wy_c.ne2 hc_20 hn_35 (hd1 8 (by decide))
              have hc_37 := wy_c.ne2 hc_21 hn_35 (hd2 0 8 (by decide) (by decide) (by decide))
              have hc_38 := wy_c.ne2 hc_22 hn_35 (hd2 1 8 (by decide) (by decide) (by decide))
              have hc_39 := wy_c.ne2 hc_23 hn_35 (hd2 2 8 (by decide) (by decide) (by decide))
              have hc_40 := wy_c.ne2 hc_24 hn_35 (hd2 3 8 (by decide) (by decide) (by decide))
              have hc_41 := wy_c.ne2 hc_25 hn_35 (hd2 4 8 (by decide) (by decide) (by decide))
              have hc_42 := wy_c.ne2 hc_26 hn_35 (hd2 5 8 (by decide) (by decide) (by decide))
              have hc_43 := wy_c.ne2 hc_27 hn_35 (hd2 6 8 (by decide) (by decide) (by decide))
              have hc_44 := wy_c.ne2 hs_18 hn_35 (hd2 7 8 (by decide) (by decide) (by decide))
              have hc_45 := wy_c.ne2 hc_29 hn_35 (hd2 9 8 (by decide) (by decide) (by decide))
              refine lv_aload_n hx hb dX2_settle_113 rfl (lv_at hl 2 rfl) ?_
              refine wy_get (ci := 3) (v := .ref (ma 8)) (C := RX2) (T := TX2) (N := 15) hx hb hts hinX2 hown hK hw.1 hc_36 rfl 11 (by decide) (hts (.fieldLink RX2 42 "WheelpayModel" "refund" "[I") (by decide +kernel)) (fun _ h9 => h9) rfl dX2_settle_114 ?_
              refine lv_iload hx hb dX2_settle_117 (lv_at hl 0 rfl) ?_
              refine wy_iald hx hb hK hw.1 hs_34 (10 * (ix p1) + (ix p2)) nx_7 (by omega) (by omega) dX2_settle_119 ?_
              obtain ⟨hrd, hrs⟩ : rdp (rr (ix p1)) (ix p2) = true ∧ rse (rr (ix p1)) (ix p2) = false := by simpa using hdp1
              obtain ⟨g7_46, eg7_46⟩ : ∃ z, z = upd g7 (10 * (ix p1) + (ix p2)) 2 := ⟨_, rfl⟩
              have hg7_46 : wy_c L f_33 (ma 7) (.inl (G.2 0, 400, .inl g7_46)) := by rw [eg7_46]; exact hc_44
              obtain ⟨g8_47, eg8_47⟩ : ∃ z, z = upd g8 (10 * (ix p1) + (ix p2)) (rfv (rr (ix p1)) (ix p2) p3) := ⟨_, rfl⟩
              have hg8_47 : wy_c L f_33 (ma 8) (.inl (G.2 0, 400, .inl g8_47)) := by rw [eg8_47]; exact hs_34
              have hq : wm_S G L f_33 om ma n km mn wk 0 g0 g1 g2 g3 g4 g5 g6 g7_46 g8_47 g9 := ⟨hc_36, hc_37, hc_38, hc_39, hc_40, hc_41, hc_42, hc_43, hg7_46, hg8_47, hc_45, hd1, hd2, (by omega), (by omega)⟩
              have hm : wm_r po (va_up rr (ix p1) (vRef (rr (ix p1)) (ix p2) p3 false)) g0 g1 g2 g3 g4 g5 g6 g7_46 g8_47 g9 := by rw [eg7_46, eg8_47]; exact wm_ref (b := false) hm (hi _ hk40) hk40 hr10 hrd hrs
              exact wy_iW hx hb hr hlocks dX2_settle_120 hw (Nat.le_of_ble_eq_true rfl) (Nat.le_of_ble_eq_true rfl) (wm_ok (by simp [slC, bc_2, bc_8, bc_10, hok1, hok2, hdp1]) (by simp [upd]) hq hm)
            · have bc_16 : (bb) = true := bI_1 (fun z => c_16 (rfl.trans z))
              subst bc_16
              refine lv_iconst (v := 3) hx hb dX2_settle_84 (by decide) ?_
              refine lv_goto (tgt := 89) hx hb dX2_settle_85 (by decide) ?_
              refine wy_iast hx hb hK hw hq.2.2.2.2.2.2.2.2.1 (10 * (ix p1) + (ix p2)) nx_7 (by omega) (by omega) dX2_settle_89 (fun H locs f_48 hs_49 hn_50 hw => ?_)
              have hc_51 := wy_c.ne2 hq.1 hn_50 (hd1 7 (by decide))
              have hc_52 := wy_c.ne2 hq.2.1 hn_50 (hd2 0 7 (by decide) (by decide) (by decide))
              have hc_53 := wy_c.ne2 hq.2.2.1 hn_50 (hd2 1 7 (by decide) (by decide) (by decide))
              have hc_54 := wy_c.ne2 hq.2.2.2.1 hn_50 (hd2 2 7 (by decide) (by decide) (by decide))
              have hc_55 := wy_c.ne2 hq.2.2.2.2.1 hn_50 (hd2 3 7 (by decide) (by decide) (by decide))
              have hc_56 := wy_c.ne2 hq.2.2.2.2.2.1 hn_50 (hd2 4 7 (by decide) (by decide) (by decide))
              have hc_57 := wy_c.ne2 hq.2.2.2.2.2.2.1 hn_50 (hd2 5 7 (by decide) (by decide) (by decide))
              have hc_58 := wy_c.ne2 hq.2.2.2.2.2.2.2.1 hn_50 (hd2 6 7 (by decide) (by decide) (by decide))
              have hc_59 := wy_c.ne2 hq.2.2.2.2.2.2.2.2.2.1 hn_50 (hd2 8 7 (by decide) (by decide) (by decide))
              have hc_60 := wy_c.ne2 hq.2.2.2.2.2.2.2.2.2.2.1 hn_50 (hd2 9 7 (by decide) (by decide) (by decide))
              refine lv_aload_n hx hb dX2_settle_90 rfl (lv_at hl 2 rfl) ?_
              refine wy_get (ci := 3) (v := .ref (ma 8)) (C := RX2) (T := TX2) (N := 15) hx hb hts hinX2 hown hK hw.1 hc_51 rfl 11 (by decide) (hts (.fieldLink RX2 42 "WheelpayModel" "refund" "[I") (by decide +kernel)) (fun _ h9 => h9) rfl dX2_settle_91 ?_
              refine lv_iload hx hb dX2_settle_94 (lv_at hl 0 rfl) ?_
              refine lv_aload_n hx hb dX2_settle_96 rfl (lv_at hl 2 rfl) ?_
              refine wy_get (ci := 3) (v := .ref (ma 6)) (C := RX2) (T := TX2) (N := 15) hx hb hts hinX2 hown hK hw.1 hc_51 rfl 9 (by decide) (hts (.fieldLink RX2 36 "WheelpayModel" "charge" "[I") (by decide +kernel)) (fun _ h9 => h9) rfl dX2_settle_97 ?_
              refine lv_iload hx hb dX2_settle_100 (lv_at hl 0 rfl) ?_
              refine wy_iald hx hb hK hw.1 hc_58 (10 * (ix p1) + (ix p2)) nx_7 (by omega) (by omega) dX2_settle_102 ?_
              rw [show g6 (10 * (ix p1) + (ix p2)) = rch (rr (ix p1)) ((ix p2)) from ((hm.1 (ix p1) (by omega)).2.2.2.2.2 ((ix p2)) (by omega)).2.1]
              refine lv_i2l (v := (rch (rr (ix p1)) ((ix p2))).toInt64) hx hb dX2_settle_103 rfl ?_
              refine lv_iload_n hx hb dX2_settle_104 rfl (lv_at hl 5 rfl) ?_
              refine lv_i2l (v := p3.toInt64) hx hb dX2_settle_105 rfl ?_
              refine lv_lmul hx hb dX2_settle_106 ?_
              refine lv_ldc2 (v := 100) hx hb hown (hts (.constantLong RX2 92 (100)) (by decide +kernel)) dX2_settle_107 ?_
              refine lv_ldiv hx hb dX2_settle_110 (by decide) ?_
              refine lv_l2i (v := ((((rch (rr (ix p1)) ((ix p2))).toInt64) * p3.toInt64) / (100 : Int64)).toInt32) hx hb dX2_settle_111 rfl ?_
              refine lv_topi (fun x_63 ex_63 => ?_)
              obtain rfl : x_63 = rfv (rr (ix p1)) (ix p2) p3 := by simp only [er_1, ex_6, ex_7, er_9, ex_63]; rfl
              refine wy_iast hx hb hK hw hc_59 (10 * (ix p1) + (ix p2)) nx_7 (by omega) (by omega) dX2_settle_112 (fun H locs f_64 hs_65 hn_66 hw => ?_)
              have hc_67 := wy_c.ne2 hc_51 hn_66 (hd1 8 (by decide))
              have hc_68 := wy_c.ne2 hc_52 hn_66 (hd2 0 8 (by decide) (by decide) (by decide))
              have hc_69 := wy_c.ne2 hc_53 hn_66 (hd2 1 8 (by decide) (by decide) (by decide))
              have hc_70 := wy_c.ne2 hc_54 hn_66 (hd2 2 8 (by decide) (by decide) (by decide))
              have hc_71 := wy_c.ne2 hc_55 hn_66 (hd2 3 8 (by decide) (by decide) (by decide))
              have hc_72 := wy_c.ne2 hc_56 hn_66 (hd2 4 8 (by decide) (by decide) (by decide))
              have hc_73 := wy_c.ne2 hc_57 hn_66 (hd2 5 8 (by decide) (by decide) (by decide))
              have hc_74 := wy_c.ne2 hc_58 hn_66 (hd2 6 8 (by decide) (by decide) (by decide))
              have hc_75 := wy_c.ne2 hs_49 hn_66 (hd2 7 8 (by decide) (by decide) (by decide))
              have hc_76 := wy_c.ne2 hc_60 hn_66 (hd2 9 8 (by decide) (by decide) (by decide))
              refine lv_aload_n hx hb dX2_settle_113 rfl (lv_at hl 2 rfl) ?_
              refine wy_get (ci := 3) (v := .ref (ma 8)) (C := RX2) (T := TX2) (N := 15) hx hb hts hinX2 hown hK hw.1 hc_67 rfl 11 (by decide) (hts (.fieldLink RX2 42 "WheelpayModel" "refund" "[I") (by decide +kernel)) (fun _ h9 => h9) rfl dX2_settle_114 ?_
              refine lv_iload hx hb dX2_settle_117 (lv_at hl 0 rfl) ?_
              refine wy_iald hx hb hK hw.1 hs_65 (10 * (ix p1) + (ix p2)) nx_7 (by omega) (by omega) dX2_settle_119 ?_
              obtain ⟨hrd, hrs⟩ : rdp (rr (ix p1)) (ix p2) = true ∧ rse (rr (ix p1)) (ix p2) = false := by simpa using hdp1
              obtain ⟨g7_77, eg7_77⟩ : ∃ z, z = upd g7 (10 * (ix p1) + (ix p2)) 3 := ⟨_, rfl⟩
              have hg7_77 : wy_c L f_64 (ma 7) (.inl (G.2 0, 400, .inl g7_77)) := by rw [eg7_77]; exact hc_75
              obtain ⟨g8_78, eg8_78⟩ : ∃ z, z = upd g8 (10 * (ix p1) + (ix p2)) (rfv (rr (ix p1)) (ix p2) p3) := ⟨_, rfl⟩
              have hg8_78 : wy_c L f_64 (ma 8) (.inl (G.2 0, 400, .inl g8_78)) := by rw [eg8_78]; exact hs_65
              have hq : wm_S G L f_64 om ma n km mn wk 0 g0 g1 g2 g3 g4 g5 g6 g7_77 g8_78 g9 := ⟨hc_67, hc_68, hc_69, hc_70, hc_71, hc_72, hc_73, hc_74, hg7_77, hg8_78, hc_76, hd1, hd2, (by omega), (by omega)⟩
              have hm : wm_r po (va_up rr (ix p1) (vRef (rr (ix p1)) (ix p2) p3 true)) g0 g1 g2 g3 g4 g5 g6 g7_77 g8_78 g9 := by rw [eg7_77, eg8_78]; exact wm_ref (b := true) hm (hi _ hk40) hk40 hr10 hrd hrs
              exact wy_iW hx hb hr hlocks dX2_settle_120 hw (Nat.le_of_ble_eq_true rfl) (Nat.le_of_ble_eq_true rfl) (wm_ok (by simp [slC, bc_2, bc_8, bc_10, hok1, hok2, hdp1]) (by simp [upd]) hq hm)
          · exact absurd rfl c_15
      · have bc_10 : (rngB p3 0 100) = false := bI_0 (er_9.symm.trans c_10)
        refine lv_iconst (v := 2) hx hb dX2_settle_45 (by decide) ?_
        refine lv_goto (tgt := 65) hx hb dX2_settle_46 (by decide) ?_
        refine wy_call (va_runV (As := [.int 2]) (rest := []) ⟨hx, hb, hml, hown, hts⟩ (m_X2_fails l hq (2)) (cwV 1 hts gX2_settle_X2_fails rfl rfl rfl (by decide +kernel) ⟨Nat.le_of_ble_eq_true rfl, Nat.le_of_ble_eq_true rfl⟩) (wy_pVW hK hw hq.1 rfl) rfl rfl hl.1 rfl (lv_room (Nat.le_of_ble_eq_true rfl)) dX2_settle_65 ⟨Nat.le_of_ble_eq_true rfl, Nat.le_of_ble_eq_true rfl⟩) hw hA (fun rw_79 Lw_79 fw_79 H locs hpost hw => ?_)
        obtain ⟨er_79, eL_79, hq⟩ := hpost
        subst er_79
        obtain rfl := eL_79.symm
        rw [show bI (decide ((0 : Int32) < 2)) = 1 from rfl]
        refine lv_if_eq (tgt := 73) hx hb dX2_settle_68 (by decide) (fun c_80 => ?_) (fun c_80 => ?_)
        · exact absurd c_80 (by decide)
        · have bc_80 : (true) = true := bI_1 (fun z => c_80 (rfl.trans z))
          refine lv_iconst (v := 0) hx hb dX2_settle_71 (by decide) ?_
          exact wy_iW hx hb hr hlocks dX2_settle_72 hw (Nat.le_of_ble_eq_true rfl) (Nat.le_of_ble_eq_true rfl) (wm_no (by simp [slC, bc_2, bc_8, bc_10, bc_80, hok1, hok2]) (by decide) hq hm)
    · have bc_8 : (okN n p1 && okN 10 p2) = false := bI_0 (er_1.symm.trans c_8)
      exact absurd (bc_2.symm.trans bc_8) (by decide)
set_option maxHeartbeats 4000000 in
set_option maxRecDepth 100000 in
theorem m_X2_isNoWeek (l : Launch) {G : wy_G} {L : List Nat} {f : Nat → va_E} {sz : Nat} {om : Nat} {ma : Nat → Nat} {n : Nat} {km mn : Int32} {wk : Nat} {th : Int32} {g0 g1 g2 g3 g4 g5 g6 g7 g8 g9 : Nat → Int32} (hq : wm_S G L f om ma n km mn wk th g0 g1 g2 g3 g4 g5 g6 g7 g8 g9) (p1 p2 : Int32) : Met l yX2_isNoWeek wsX2_isNoWeek ({ frames := 2, cells := 0, slots := 0, locals := 42 } : Room) (va_Pc [.ref om, .int p1, .int p2] (wy_W G L f sz)) (wy_Q G (wm_t G L om ma n km mn wk (ewC wk p1 p2) g0 g1 g2 g3 g4 g5 g6 g7 g8 g9 (some (.int (bI (!decide (ewC wk p1 p2 = 0)))))) (wy_A L sz)) 0 0 (wy_A L sz) := by
  refine Met.ofW (cc := cX2_isNoWeek) (maxL := 3) (ret := (some .boolean)) (by decide) rfl ?_
  intro p e s m args below meth c s₁ B hml hv
  obtain ⟨rfl, hv⟩ := hv
  obtain ⟨hw, hK, hA⟩ := wy_start hv
  have hsz := hv.1
  subst hsz
  have hx := B.exec
  have hb := B.bytes
  have hr := B.returns
  have hts := atoms_spec (ws := wsX2_isNoWeek) B.pre
  have hown : s.vm.findClass RX2 = some m.cls := findClass_of_methodNamed B.named
  have hlocks := B.notSynchronized
  have hinX2 : ∀ w ∈ wsX20, w ∈ wsX2_isNoWeek := by decide +kernel
  have hn : n ≤ 40 := hq.2.2.2.2.2.2.2.2.2.2.2.2.2.1
  have hwk : wk ≤ 20 := hq.2.2.2.2.2.2.2.2.2.2.2.2.2.2
  have hsN : ∀ v r, stN v r < 2 ^ 31 := fun v r => by unfold stN; split <;> (try split) <;> (try split) <;> decide
  have hdN : ∀ v r, dpN v r < 2 ^ 31 := fun v r => by unfold dpN; split <;> (try split) <;> (try split) <;> decide
  have hd1 := hq.2.2.2.2.2.2.2.2.2.2.2.1
  have hd2 := hq.2.2.2.2.2.2.2.2.2.2.2.2.1
  have hl := lv_entry ([.ref om, .int p1, .int p2]) (n := 3) (Nat.le_of_ble_eq_true rfl)
  rw [lg_entry_eq]
  generalize (lg_sl ([.ref om, .int p1, .int p2]) ++ List.replicate (3 - (lg_sl ([.ref om, .int p1, .int p2])).length) Slot.unset).toArray = ls at hl ⊢
  have hl : lv_has ls 3 [(0, .ref om), (1, .int p1), (2, .int p2)] := hl
  refine lv_aload_n hx hb dX2_isNoWeek_0 rfl (lv_at hl 0 rfl) ?_
  refine lv_iload_n hx hb dX2_isNoWeek_1 rfl (lv_at hl 1 rfl) ?_
  refine vp_callSi (W.runS (As := [.int p1]) (rest := [.ref om]) ⟨hx, hb, hml, hown, hts⟩ (m_X2_isDriver l (p1)) (va_cwS 1 hts gX2_isNoWeek_X2_isDriver rfl rfl rfl (by decide +kernel) ⟨Nat.le_of_ble_eq_true rfl, Nat.le_of_ble_eq_true rfl⟩) (wy_pSN) rfl rfl hl.1 rfl (lv_room (Nat.le_of_ble_eq_true rfl)) dX2_isNoWeek_2 ⟨Nat.le_of_ble_eq_true rfl, Nat.le_of_ble_eq_true rfl⟩) (fun r_1 er_1 => ?_)
  refine lv_if_ne (tgt := 12) hx hb dX2_isNoWeek_5 (by decide) (fun c_2 => ?_) (fun c_2 => ?_)
  · have bc_2 : (okN 5 p1) = true := bI_1 (fun z => c_2 (er_1.trans z))
    refine lv_iload_n hx hb dX2_isNoWeek_12 rfl (lv_at hl 2 rfl) ?_
    refine lv_iconst (v := 0) hx hb dX2_isNoWeek_13 (by decide) ?_
    refine lv_aload_n hx hb dX2_isNoWeek_14 rfl (lv_at hl 0 rfl) ?_
    refine wy_get (ci := 3) (v := .int (nI wk)) (C := RX2) (T := TX2) (N := 15) hx hb hts hinX2 hown hK hw.1 hq.1 rfl 12 (by decide) (hts (.fieldLink RX2 71 "WheelpayModel" "week" "I") (by decide +kernel)) (fun _ h9 => h9) rfl dX2_isNoWeek_15 ?_
    refine vp_callSi (W.runS (As := [.int p2, .int 0, .int (nI wk)]) (rest := [.ref om]) ⟨hx, hb, hml, hown, hts⟩ (m_X2_isIn l (p2) (0) (nI wk)) (va_cwS 3 hts gX2_isNoWeek_X2_isIn rfl rfl rfl (by decide +kernel) ⟨Nat.le_of_ble_eq_true rfl, Nat.le_of_ble_eq_true rfl⟩) (wy_pSN) rfl rfl hl.1 rfl (lv_room (Nat.le_of_ble_eq_true rfl)) dX2_isNoWeek_18 ⟨Nat.le_of_ble_eq_true rfl, Nat.le_of_ble_eq_true rfl⟩) (fun r_3 er_3 => ?_)
    refine lv_if_eq (tgt := 28) hx hb dX2_isNoWeek_21 (by decide) (fun c_4 => ?_) (fun c_4 => ?_)
    · have bc_4 : (rngB p2 0 (nI wk)) = false := bI_0 (er_3.symm.trans c_4)
      refine lv_iconst (v := 2) hx hb dX2_isNoWeek_28 (by decide) ?_
      refine wy_call (va_runV (As := [.int 2]) (rest := []) ⟨hx, hb, hml, hown, hts⟩ (m_X2_fails l hq (2)) (cwV 1 hts gX2_isNoWeek_X2_fails rfl rfl rfl (by decide +kernel) ⟨Nat.le_of_ble_eq_true rfl, Nat.le_of_ble_eq_true rfl⟩) (wy_pVW hK hw hq.1 rfl) rfl rfl hl.1 rfl (lv_room (Nat.le_of_ble_eq_true rfl)) dX2_isNoWeek_29 ⟨Nat.le_of_ble_eq_true rfl, Nat.le_of_ble_eq_true rfl⟩) hw hA (fun rw_5 Lw_5 fw_5 H locs hpost hw => ?_)
      obtain ⟨er_5, eL_5, hq⟩ := hpost
      subst er_5
      obtain rfl := eL_5.symm
      rw [show bI (decide ((0 : Int32) < 2)) = 1 from rfl]
      exact wy_zW (b := true) rfl hx hb hr hlocks dX2_isNoWeek_32 hw (Nat.le_of_ble_eq_true rfl) (Nat.le_of_ble_eq_true rfl) (by rw [show ewC wk p1 p2 = 2 from by simp [ewC, bc_2, bc_4]]; exact ⟨rfl, rfl, hq⟩)
    · have bc_4 : (rngB p2 0 (nI wk)) = true := bI_1 (fun z => c_4 (er_3.trans z))
      refine lv_iconst (v := 0) hx hb dX2_isNoWeek_24 (by decide) ?_
      refine lv_goto (tgt := 29) hx hb dX2_isNoWeek_25 (by decide) ?_
      refine wy_call (va_runV (As := [.int 0]) (rest := []) ⟨hx, hb, hml, hown, hts⟩ (m_X2_fails l hq (0)) (cwV 1 hts gX2_isNoWeek_X2_fails rfl rfl rfl (by decide +kernel) ⟨Nat.le_of_ble_eq_true rfl, Nat.le_of_ble_eq_true rfl⟩) (wy_pVW hK hw hq.1 rfl) rfl rfl hl.1 rfl (lv_room (Nat.le_of_ble_eq_true rfl)) dX2_isNoWeek_29 ⟨Nat.le_of_ble_eq_true rfl, Nat.le_of_ble_eq_true rfl⟩) hw hA (fun rw_6 Lw_6 fw_6 H locs hpost hw => ?_)
      obtain ⟨er_6, eL_6, hq⟩ := hpost
      subst er_6
      obtain rfl := eL_6.symm
      rw [show bI (decide ((0 : Int32) < 0)) = 0 from rfl]
      exact wy_zW (b := false) rfl hx hb hr hlocks dX2_isNoWeek_32 hw (Nat.le_of_ble_eq_true rfl) (Nat.le_of_ble_eq_true rfl) (by rw [show ewC wk p1 p2 = 0 from by simp [ewC, bc_2, bc_4]]; exact ⟨rfl, rfl, hq⟩)
  · have bc_2 : (okN 5 p1) = false := bI_0 (er_1.symm.trans c_2)
    refine lv_iconst (v := 1) hx hb dX2_isNoWeek_8 (by decide) ?_
    refine lv_goto (tgt := 29) hx hb dX2_isNoWeek_9 (by decide) ?_
    refine wy_call (va_runV (As := [.int 1]) (rest := []) ⟨hx, hb, hml, hown, hts⟩ (m_X2_fails l hq (1)) (cwV 1 hts gX2_isNoWeek_X2_fails rfl rfl rfl (by decide +kernel) ⟨Nat.le_of_ble_eq_true rfl, Nat.le_of_ble_eq_true rfl⟩) (wy_pVW hK hw hq.1 rfl) rfl rfl hl.1 rfl (lv_room (Nat.le_of_ble_eq_true rfl)) dX2_isNoWeek_29 ⟨Nat.le_of_ble_eq_true rfl, Nat.le_of_ble_eq_true rfl⟩) hw hA (fun rw_7 Lw_7 fw_7 H locs hpost hw => ?_)
    obtain ⟨er_7, eL_7, hq⟩ := hpost
    subst er_7
    obtain rfl := eL_7.symm
    rw [show bI (decide ((0 : Int32) < 1)) = 1 from rfl]
    exact wy_zW (b := true) rfl hx hb hr hlocks dX2_isNoWeek_32 hw (Nat.le_of_ble_eq_true rfl) (Nat.le_of_ble_eq_true rfl) (by rw [show ewC wk p1 p2 = 1 from by simp [ewC, bc_2]]; exact ⟨rfl, rfl, hq⟩)
set_option maxHeartbeats 4000000 in
set_option maxRecDepth 100000 in
theorem m_X2_earnings (l : Launch) {G : wy_G} {L : List Nat} {f : Nat → va_E} {sz : Nat} {om : Nat} {ma : Nat → Nat} {n : Nat} {km mn : Int32} {wk : Nat} {th : Int32} {po : Nat → Int32} {rr : Nat → wr_V} {g0 g1 g2 g3 g4 g5 g6 g7 g8 g9 : Nat → Int32} {t : Nat} (hq : wm_S G L f om ma n km mn wk th g0 g1 g2 g3 g4 g5 g6 g7 g8 g9) (hm : wm_r po rr g0 g1 g2 g3 g4 g5 g6 g7 g8 g9) (hi : ∀ k, k < 40 → wi t (rr k)) (ht1 : t + 1 ≤ 512) (p1 p2 : Int32) : Met l yX2_earnings wsX2_earnings ({ frames := 3, cells := 0, slots := 0, locals := 64 } : Room) (va_Pc [.ref om, .int p1, .int p2] (wy_W G L f sz)) (wy_Q G (wm_p G L om ma (if ewC wk p1 p2 = 0 then n else n) (if ewC wk p1 p2 = 0 then km else km) (if ewC wk p1 p2 = 0 then mn else mn) (if ewC wk p1 p2 = 0 then wk else wk) (if ewC wk p1 p2 = 0 then po else po) (if ewC wk p1 p2 = 0 then rr else rr) (ewC wk p1 p2) (some (.int (if ewC wk p1 p2 = 0 then earnS rr n p1 p2 else 0)))) (wy_A L sz)) 0 0 (wy_A L sz) := by
  refine Met.ofW (cc := cX2_earnings) (maxL := 3) (ret := (some .int)) (by decide) rfl ?_
  intro p e s m args below meth c s₁ B hml hv
  obtain ⟨rfl, hv⟩ := hv
  obtain ⟨hw, hK, hA⟩ := wy_start hv
  have hsz := hv.1
  subst hsz
  have hx := B.exec
  have hb := B.bytes
  have hr := B.returns
  have hts := atoms_spec (ws := wsX2_earnings) B.pre
  have hown : s.vm.findClass RX2 = some m.cls := findClass_of_methodNamed B.named
  have hlocks := B.notSynchronized
  have hn : n ≤ 40 := hq.2.2.2.2.2.2.2.2.2.2.2.2.2.1
  have hwk : wk ≤ 20 := hq.2.2.2.2.2.2.2.2.2.2.2.2.2.2
  have hsN : ∀ v r, stN v r < 2 ^ 31 := fun v r => by unfold stN; split <;> (try split) <;> (try split) <;> decide
  have hdN : ∀ v r, dpN v r < 2 ^ 31 := fun v r => by unfold dpN; split <;> (try split) <;> (try split) <;> decide
  have hd1 := hq.2.2.2.2.2.2.2.2.2.2.2.1
  have hd2 := hq.2.2.2.2.2.2.2.2.2.2.2.2.1
  have ht : t ≤ 512 := by omega
  have hl := lv_entry ([.ref om, .int p1, .int p2]) (n := 3) (Nat.le_of_ble_eq_true rfl)
  rw [lg_entry_eq]
  generalize (lg_sl ([.ref om, .int p1, .int p2]) ++ List.replicate (3 - (lg_sl ([.ref om, .int p1, .int p2])).length) Slot.unset).toArray = ls at hl ⊢
  have hl : lv_has ls 3 [(0, .ref om), (1, .int p1), (2, .int p2)] := hl
  refine lv_aload_n hx hb dX2_earnings_0 rfl (lv_at hl 0 rfl) ?_
  refine lv_iload_n hx hb dX2_earnings_1 rfl (lv_at hl 1 rfl) ?_
  refine lv_iload_n hx hb dX2_earnings_2 rfl (lv_at hl 2 rfl) ?_
  refine wy_call (va_runV (As := [.int p1, .int p2]) (rest := []) ⟨hx, hb, hml, hown, hts⟩ (m_X2_isNoWeek l hq (p1) (p2)) (cwV 2 hts gX2_earnings_X2_isNoWeek rfl rfl rfl (by decide +kernel) ⟨Nat.le_of_ble_eq_true rfl, Nat.le_of_ble_eq_true rfl⟩) (wy_pVW hK hw hq.1 rfl) rfl rfl hl.1 rfl (lv_room (Nat.le_of_ble_eq_true rfl)) dX2_earnings_3 ⟨Nat.le_of_ble_eq_true rfl, Nat.le_of_ble_eq_true rfl⟩) hw hA (fun rw_1 Lw_1 fw_1 H locs hpost hw => ?_)
  obtain ⟨er_1, eL_1, hq⟩ := hpost
  subst er_1
  obtain rfl := eL_1.symm
  refine lv_if_eq (tgt := 13) hx hb dX2_earnings_6 (by decide) (fun c_2 => ?_) (fun c_2 => ?_)
  · have bc_2 : (!decide (ewC wk p1 p2 = 0)) = false := bI_0 (rfl.symm.trans c_2)
    refine lv_aload_n hx hb dX2_earnings_13 rfl (lv_at hl 0 rfl) ?_
    refine lv_iload_n hx hb dX2_earnings_14 rfl (lv_at hl 1 rfl) ?_
    refine lv_iload_n hx hb dX2_earnings_15 rfl (lv_at hl 2 rfl) ?_
    refine vp_callSi (W.runV (As := [.int p1, .int p2]) (rest := []) ⟨hx, hb, hml, hown, hts⟩ (m_X2_earns l hq hm hi ht (p1) (p2)) (cwV 2 hts gX2_earnings_X2_earns rfl rfl rfl (by decide +kernel) ⟨Nat.le_of_ble_eq_true rfl, Nat.le_of_ble_eq_true rfl⟩) (wy_pVR hK hw.1 hq.1 rfl) rfl rfl hl.1 rfl (lv_room (Nat.le_of_ble_eq_true rfl)) dX2_earnings_16 ⟨Nat.le_of_ble_eq_true rfl, Nat.le_of_ble_eq_true rfl⟩) (fun r_3 er_3 => ?_)
    have hC0 : ewC wk p1 p2 = 0 := by simpa using bc_2
    rw [hC0] at hq
    exact wy_iW hx hb hr hlocks dX2_earnings_19 hw (Nat.le_of_ble_eq_true rfl) (Nat.le_of_ble_eq_true rfl) (wm_ok hC0 (by simp only [er_3]) hq hm)
  · have bc_2 : (!decide (ewC wk p1 p2 = 0)) = true := bI_1 (fun z => c_2 (rfl.trans z))
    refine lv_iconst (v := 0) hx hb dX2_earnings_9 (by decide) ?_
    refine lv_goto (tgt := 19) hx hb dX2_earnings_10 (by decide) ?_
    exact wy_iW hx hb hr hlocks dX2_earnings_19 hw (Nat.le_of_ble_eq_true rfl) (Nat.le_of_ble_eq_true rfl) (wm_no rfl (by simpa using bc_2) hq hm)
set_option maxHeartbeats 4000000 in
set_option maxRecDepth 100000 in
theorem m_X2_topUp (l : Launch) {G : wy_G} {L : List Nat} {f : Nat → va_E} {sz : Nat} {om : Nat} {ma : Nat → Nat} {n : Nat} {km mn : Int32} {wk : Nat} {th : Int32} {po : Nat → Int32} {rr : Nat → wr_V} {g0 g1 g2 g3 g4 g5 g6 g7 g8 g9 : Nat → Int32} {t : Nat} (hq : wm_S G L f om ma n km mn wk th g0 g1 g2 g3 g4 g5 g6 g7 g8 g9) (hm : wm_r po rr g0 g1 g2 g3 g4 g5 g6 g7 g8 g9) (hi : ∀ k, k < 40 → wi t (rr k)) (ht1 : t + 1 ≤ 512) (p1 p2 : Int32) : Met l yX2_topUp wsX2_topUp ({ frames := 3, cells := 0, slots := 0, locals := 72 } : Room) (va_Pc [.ref om, .int p1, .int p2] (wy_W G L f sz)) (wy_Q G (wm_p G L om ma (if ewC wk p1 p2 = 0 then n else n) (if ewC wk p1 p2 = 0 then km else km) (if ewC wk p1 p2 = 0 then mn else mn) (if ewC wk p1 p2 = 0 then wk else wk) (if ewC wk p1 p2 = 0 then po else po) (if ewC wk p1 p2 = 0 then rr else rr) (ewC wk p1 p2) (some (.int (if ewC wk p1 p2 = 0 then topS rr n p1 p2 else 0)))) (wy_A L sz)) 0 0 (wy_A L sz) := by
  refine Met.ofW (cc := cX2_topUp) (maxL := 3) (ret := (some .int)) (by decide) rfl ?_
  intro p e s m args below meth c s₁ B hml hv
  obtain ⟨rfl, hv⟩ := hv
  obtain ⟨hw, hK, hA⟩ := wy_start hv
  have hsz := hv.1
  subst hsz
  have hx := B.exec
  have hb := B.bytes
  have hr := B.returns
  have hts := atoms_spec (ws := wsX2_topUp) B.pre
  have hown : s.vm.findClass RX2 = some m.cls := findClass_of_methodNamed B.named
  have hlocks := B.notSynchronized
  have hn : n ≤ 40 := hq.2.2.2.2.2.2.2.2.2.2.2.2.2.1
  have hwk : wk ≤ 20 := hq.2.2.2.2.2.2.2.2.2.2.2.2.2.2
  have hsN : ∀ v r, stN v r < 2 ^ 31 := fun v r => by unfold stN; split <;> (try split) <;> (try split) <;> decide
  have hdN : ∀ v r, dpN v r < 2 ^ 31 := fun v r => by unfold dpN; split <;> (try split) <;> (try split) <;> decide
  have hd1 := hq.2.2.2.2.2.2.2.2.2.2.2.1
  have hd2 := hq.2.2.2.2.2.2.2.2.2.2.2.2.1
  have ht : t ≤ 512 := by omega
  have hl := lv_entry ([.ref om, .int p1, .int p2]) (n := 3) (Nat.le_of_ble_eq_true rfl)
  rw [lg_entry_eq]
  generalize (lg_sl ([.ref om, .int p1, .int p2]) ++ List.replicate (3 - (lg_sl ([.ref om, .int p1, .int p2])).length) Slot.unset).toArray = ls at hl ⊢
  have hl : lv_has ls 3 [(0, .ref om), (1, .int p1), (2, .int p2)] := hl
  refine lv_aload_n hx hb dX2_topUp_0 rfl (lv_at hl 0 rfl) ?_
  refine lv_iload_n hx hb dX2_topUp_1 rfl (lv_at hl 1 rfl) ?_
  refine lv_iload_n hx hb dX2_topUp_2 rfl (lv_at hl 2 rfl) ?_
  refine wy_call (va_runV (As := [.int p1, .int p2]) (rest := []) ⟨hx, hb, hml, hown, hts⟩ (m_X2_isNoWeek l hq (p1) (p2)) (cwV 2 hts gX2_topUp_X2_isNoWeek rfl rfl rfl (by decide +kernel) ⟨Nat.le_of_ble_eq_true rfl, Nat.le_of_ble_eq_true rfl⟩) (wy_pVW hK hw hq.1 rfl) rfl rfl hl.1 rfl (lv_room (Nat.le_of_ble_eq_true rfl)) dX2_topUp_3 ⟨Nat.le_of_ble_eq_true rfl, Nat.le_of_ble_eq_true rfl⟩) hw hA (fun rw_1 Lw_1 fw_1 H locs hpost hw => ?_)
  obtain ⟨er_1, eL_1, hq⟩ := hpost
  subst er_1
  obtain rfl := eL_1.symm
  refine lv_if_eq (tgt := 13) hx hb dX2_topUp_6 (by decide) (fun c_2 => ?_) (fun c_2 => ?_)
  · have bc_2 : (!decide (ewC wk p1 p2 = 0)) = false := bI_0 (rfl.symm.trans c_2)
    refine lv_aload_n hx hb dX2_topUp_13 rfl (lv_at hl 0 rfl) ?_
    refine lv_iload_n hx hb dX2_topUp_14 rfl (lv_at hl 1 rfl) ?_
    refine lv_iload_n hx hb dX2_topUp_15 rfl (lv_at hl 2 rfl) ?_
    refine vp_callSi (W.runV (As := [.int p1, .int p2]) (rest := []) ⟨hx, hb, hml, hown, hts⟩ (m_X2_topsUp l hq hm hi ht (p1) (p2)) (cwV 2 hts gX2_topUp_X2_topsUp rfl rfl rfl (by decide +kernel) ⟨Nat.le_of_ble_eq_true rfl, Nat.le_of_ble_eq_true rfl⟩) (wy_pVR hK hw.1 hq.1 rfl) rfl rfl hl.1 rfl (lv_room (Nat.le_of_ble_eq_true rfl)) dX2_topUp_16 ⟨Nat.le_of_ble_eq_true rfl, Nat.le_of_ble_eq_true rfl⟩) (fun r_3 er_3 => ?_)
    have hC0 : ewC wk p1 p2 = 0 := by simpa using bc_2
    rw [hC0] at hq
    exact wy_iW hx hb hr hlocks dX2_topUp_19 hw (Nat.le_of_ble_eq_true rfl) (Nat.le_of_ble_eq_true rfl) (wm_ok hC0 (by simp only [er_3]) hq hm)
  · have bc_2 : (!decide (ewC wk p1 p2 = 0)) = true := bI_1 (fun z => c_2 (rfl.trans z))
    refine lv_iconst (v := 0) hx hb dX2_topUp_9 (by decide) ?_
    refine lv_goto (tgt := 19) hx hb dX2_topUp_10 (by decide) ?_
    exact wy_iW hx hb hr hlocks dX2_topUp_19 hw (Nat.le_of_ble_eq_true rfl) (Nat.le_of_ble_eq_true rfl) (wm_no rfl (by simpa using bc_2) hq hm)
set_option maxHeartbeats 4000000 in
set_option maxRecDepth 100000 in
theorem m_X2_bonus (l : Launch) {G : wy_G} {L : List Nat} {f : Nat → va_E} {sz : Nat} {om : Nat} {ma : Nat → Nat} {n : Nat} {km mn : Int32} {wk : Nat} {th : Int32} {po : Nat → Int32} {rr : Nat → wr_V} {g0 g1 g2 g3 g4 g5 g6 g7 g8 g9 : Nat → Int32} {t : Nat} (hq : wm_S G L f om ma n km mn wk th g0 g1 g2 g3 g4 g5 g6 g7 g8 g9) (hm : wm_r po rr g0 g1 g2 g3 g4 g5 g6 g7 g8 g9) (hi : ∀ k, k < 40 → wi t (rr k)) (ht1 : t + 1 ≤ 512) (p1 p2 : Int32) : Met l yX2_bonus wsX2_bonus ({ frames := 3, cells := 0, slots := 0, locals := 64 } : Room) (va_Pc [.ref om, .int p1, .int p2] (wy_W G L f sz)) (wy_Q G (wm_p G L om ma (if ewC wk p1 p2 = 0 then n else n) (if ewC wk p1 p2 = 0 then km else km) (if ewC wk p1 p2 = 0 then mn else mn) (if ewC wk p1 p2 = 0 then wk else wk) (if ewC wk p1 p2 = 0 then po else po) (if ewC wk p1 p2 = 0 then rr else rr) (ewC wk p1 p2) (some (.int (if ewC wk p1 p2 = 0 then bonS rr n p1 p2 else 0)))) (wy_A L sz)) 0 0 (wy_A L sz) := by
  refine Met.ofW (cc := cX2_bonus) (maxL := 3) (ret := (some .int)) (by decide) rfl ?_
  intro p e s m args below meth c s₁ B hml hv
  obtain ⟨rfl, hv⟩ := hv
  obtain ⟨hw, hK, hA⟩ := wy_start hv
  have hsz := hv.1
  subst hsz
  have hx := B.exec
  have hb := B.bytes
  have hr := B.returns
  have hts := atoms_spec (ws := wsX2_bonus) B.pre
  have hown : s.vm.findClass RX2 = some m.cls := findClass_of_methodNamed B.named
  have hlocks := B.notSynchronized
  have hn : n ≤ 40 := hq.2.2.2.2.2.2.2.2.2.2.2.2.2.1
  have hwk : wk ≤ 20 := hq.2.2.2.2.2.2.2.2.2.2.2.2.2.2
  have hsN : ∀ v r, stN v r < 2 ^ 31 := fun v r => by unfold stN; split <;> (try split) <;> (try split) <;> decide
  have hdN : ∀ v r, dpN v r < 2 ^ 31 := fun v r => by unfold dpN; split <;> (try split) <;> (try split) <;> decide
  have hd1 := hq.2.2.2.2.2.2.2.2.2.2.2.1
  have hd2 := hq.2.2.2.2.2.2.2.2.2.2.2.2.1
  have ht : t ≤ 512 := by omega
  have hl := lv_entry ([.ref om, .int p1, .int p2]) (n := 3) (Nat.le_of_ble_eq_true rfl)
  rw [lg_entry_eq]
  generalize (lg_sl ([.ref om, .int p1, .int p2]) ++ List.replicate (3 - (lg_sl ([.ref om, .int p1, .int p2])).length) Slot.unset).toArray = ls at hl ⊢
  have hl : lv_has ls 3 [(0, .ref om), (1, .int p1), (2, .int p2)] := hl
  refine lv_aload_n hx hb dX2_bonus_0 rfl (lv_at hl 0 rfl) ?_
  refine lv_iload_n hx hb dX2_bonus_1 rfl (lv_at hl 1 rfl) ?_
  refine lv_iload_n hx hb dX2_bonus_2 rfl (lv_at hl 2 rfl) ?_
  refine wy_call (va_runV (As := [.int p1, .int p2]) (rest := []) ⟨hx, hb, hml, hown, hts⟩ (m_X2_isNoWeek l hq (p1) (p2)) (cwV 2 hts gX2_bonus_X2_isNoWeek rfl rfl rfl (by decide +kernel) ⟨Nat.le_of_ble_eq_true rfl, Nat.le_of_ble_eq_true rfl⟩) (wy_pVW hK hw hq.1 rfl) rfl rfl hl.1 rfl (lv_room (Nat.le_of_ble_eq_true rfl)) dX2_bonus_3 ⟨Nat.le_of_ble_eq_true rfl, Nat.le_of_ble_eq_true rfl⟩) hw hA (fun rw_1 Lw_1 fw_1 H locs hpost hw => ?_)
  obtain ⟨er_1, eL_1, hq⟩ := hpost
  subst er_1
  obtain rfl := eL_1.symm
  refine lv_if_eq (tgt := 13) hx hb dX2_bonus_6 (by decide) (fun c_2 => ?_) (fun c_2 => ?_)
  · have bc_2 : (!decide (ewC wk p1 p2 = 0)) = false := bI_0 (rfl.symm.trans c_2)
    refine lv_aload_n hx hb dX2_bonus_13 rfl (lv_at hl 0 rfl) ?_
    refine lv_iload_n hx hb dX2_bonus_14 rfl (lv_at hl 1 rfl) ?_
    refine lv_iload_n hx hb dX2_bonus_15 rfl (lv_at hl 2 rfl) ?_
    refine vp_callSi (W.runV (As := [.int p1, .int p2]) (rest := []) ⟨hx, hb, hml, hown, hts⟩ (m_X2_premium l hq hm hi ht (p1) (p2)) (cwV 2 hts gX2_bonus_X2_premium rfl rfl rfl (by decide +kernel) ⟨Nat.le_of_ble_eq_true rfl, Nat.le_of_ble_eq_true rfl⟩) (wy_pVR hK hw.1 hq.1 rfl) rfl rfl hl.1 rfl (lv_room (Nat.le_of_ble_eq_true rfl)) dX2_bonus_16 ⟨Nat.le_of_ble_eq_true rfl, Nat.le_of_ble_eq_true rfl⟩) (fun r_3 er_3 => ?_)
    have hC0 : ewC wk p1 p2 = 0 := by simpa using bc_2
    rw [hC0] at hq
    exact wy_iW hx hb hr hlocks dX2_bonus_19 hw (Nat.le_of_ble_eq_true rfl) (Nat.le_of_ble_eq_true rfl) (wm_ok hC0 (by simp only [er_3]) hq hm)
  · have bc_2 : (!decide (ewC wk p1 p2 = 0)) = true := bI_1 (fun z => c_2 (rfl.trans z))
    refine lv_iconst (v := 0) hx hb dX2_bonus_9 (by decide) ?_
    refine lv_goto (tgt := 19) hx hb dX2_bonus_10 (by decide) ?_
    exact wy_iW hx hb hr hlocks dX2_bonus_19 hw (Nat.le_of_ble_eq_true rfl) (Nat.le_of_ble_eq_true rfl) (wm_no rfl (by simpa using bc_2) hq hm)
set_option maxHeartbeats 4000000 in
set_option maxRecDepth 100000 in
theorem m_X2_pay (l : Launch) {G : wy_G} {L : List Nat} {f : Nat → va_E} {sz : Nat} {om : Nat} {ma : Nat → Nat} {n : Nat} {km mn : Int32} {wk : Nat} {th : Int32} {po : Nat → Int32} {rr : Nat → wr_V} {g0 g1 g2 g3 g4 g5 g6 g7 g8 g9 : Nat → Int32} {t : Nat} (hq : wm_S G L f om ma n km mn wk th g0 g1 g2 g3 g4 g5 g6 g7 g8 g9) (hm : wm_r po rr g0 g1 g2 g3 g4 g5 g6 g7 g8 g9) (hi : ∀ k, k < 40 → wi t (rr k)) (ht1 : t + 1 ≤ 512) (p1 p2 : Int32) : Met l yX2_pay wsX2_pay ({ frames := 4, cells := 0, slots := 0, locals := 94 } : Room) (va_Pc [.ref om, .int p1, .int p2] (wy_W G L f sz)) (wy_Q G (wm_p G L om ma (if ewC wk p1 p2 = 0 then n else n) (if ewC wk p1 p2 = 0 then km else km) (if ewC wk p1 p2 = 0 then mn else mn) (if ewC wk p1 p2 = 0 then wk else wk) (if ewC wk p1 p2 = 0 then po else po) (if ewC wk p1 p2 = 0 then rr else rr) (ewC wk p1 p2) (some (.int (if ewC wk p1 p2 = 0 then payS rr n p1 p2 else 0)))) (wy_A L sz)) 0 0 (wy_A L sz) := by
  refine Met.ofW (cc := cX2_pay) (maxL := 3) (ret := (some .int)) (by decide) rfl ?_
  intro p e s m args below meth c s₁ B hml hv
  obtain ⟨rfl, hv⟩ := hv
  obtain ⟨hw, hK, hA⟩ := wy_start hv
  have hsz := hv.1
  subst hsz
  have hx := B.exec
  have hb := B.bytes
  have hr := B.returns
  have hts := atoms_spec (ws := wsX2_pay) B.pre
  have hown : s.vm.findClass RX2 = some m.cls := findClass_of_methodNamed B.named
  have hlocks := B.notSynchronized
  have hn : n ≤ 40 := hq.2.2.2.2.2.2.2.2.2.2.2.2.2.1
  have hwk : wk ≤ 20 := hq.2.2.2.2.2.2.2.2.2.2.2.2.2.2
  have hsN : ∀ v r, stN v r < 2 ^ 31 := fun v r => by unfold stN; split <;> (try split) <;> (try split) <;> decide
  have hdN : ∀ v r, dpN v r < 2 ^ 31 := fun v r => by unfold dpN; split <;> (try split) <;> (try split) <;> decide
  have hd1 := hq.2.2.2.2.2.2.2.2.2.2.2.1
  have hd2 := hq.2.2.2.2.2.2.2.2.2.2.2.2.1
  have ht : t ≤ 512 := by omega
  have hl := lv_entry ([.ref om, .int p1, .int p2]) (n := 3) (Nat.le_of_ble_eq_true rfl)
  rw [lg_entry_eq]
  generalize (lg_sl ([.ref om, .int p1, .int p2]) ++ List.replicate (3 - (lg_sl ([.ref om, .int p1, .int p2])).length) Slot.unset).toArray = ls at hl ⊢
  have hl : lv_has ls 3 [(0, .ref om), (1, .int p1), (2, .int p2)] := hl
  refine lv_aload_n hx hb dX2_pay_0 rfl (lv_at hl 0 rfl) ?_
  refine lv_iload_n hx hb dX2_pay_1 rfl (lv_at hl 1 rfl) ?_
  refine lv_iload_n hx hb dX2_pay_2 rfl (lv_at hl 2 rfl) ?_
  refine wy_call (va_runV (As := [.int p1, .int p2]) (rest := []) ⟨hx, hb, hml, hown, hts⟩ (m_X2_isNoWeek l hq (p1) (p2)) (cwV 2 hts gX2_pay_X2_isNoWeek rfl rfl rfl (by decide +kernel) ⟨Nat.le_of_ble_eq_true rfl, Nat.le_of_ble_eq_true rfl⟩) (wy_pVW hK hw hq.1 rfl) rfl rfl hl.1 rfl (lv_room (Nat.le_of_ble_eq_true rfl)) dX2_pay_3 ⟨Nat.le_of_ble_eq_true rfl, Nat.le_of_ble_eq_true rfl⟩) hw hA (fun rw_1 Lw_1 fw_1 H locs hpost hw => ?_)
  obtain ⟨er_1, eL_1, hq⟩ := hpost
  subst er_1
  obtain rfl := eL_1.symm
  refine lv_if_eq (tgt := 13) hx hb dX2_pay_6 (by decide) (fun c_2 => ?_) (fun c_2 => ?_)
  · have bc_2 : (!decide (ewC wk p1 p2 = 0)) = false := bI_0 (rfl.symm.trans c_2)
    refine lv_aload_n hx hb dX2_pay_13 rfl (lv_at hl 0 rfl) ?_
    refine lv_iload_n hx hb dX2_pay_14 rfl (lv_at hl 1 rfl) ?_
    refine lv_iload_n hx hb dX2_pay_15 rfl (lv_at hl 2 rfl) ?_
    refine vp_callSi (W.runV (As := [.int p1, .int p2]) (rest := []) ⟨hx, hb, hml, hown, hts⟩ (m_X2_pays l hq hm hi ht (p1) (p2)) (cwV 2 hts gX2_pay_X2_pays rfl rfl rfl (by decide +kernel) ⟨Nat.le_of_ble_eq_true rfl, Nat.le_of_ble_eq_true rfl⟩) (wy_pVR hK hw.1 hq.1 rfl) rfl rfl hl.1 rfl (lv_room (Nat.le_of_ble_eq_true rfl)) dX2_pay_16 ⟨Nat.le_of_ble_eq_true rfl, Nat.le_of_ble_eq_true rfl⟩) (fun r_3 er_3 => ?_)
    have hC0 : ewC wk p1 p2 = 0 := by simpa using bc_2
    rw [hC0] at hq
    exact wy_iW hx hb hr hlocks dX2_pay_19 hw (Nat.le_of_ble_eq_true rfl) (Nat.le_of_ble_eq_true rfl) (wm_ok hC0 (by simp only [er_3]) hq hm)
  · have bc_2 : (!decide (ewC wk p1 p2 = 0)) = true := bI_1 (fun z => c_2 (rfl.trans z))
    refine lv_iconst (v := 0) hx hb dX2_pay_9 (by decide) ?_
    refine lv_goto (tgt := 19) hx hb dX2_pay_10 (by decide) ?_
    exact wy_iW hx hb hr hlocks dX2_pay_19 hw (Nat.le_of_ble_eq_true rfl) (Nat.le_of_ble_eq_true rfl) (wm_no rfl (by simpa using bc_2) hq hm)
set_option maxHeartbeats 4000000 in
set_option maxRecDepth 100000 in
theorem m_X2_balance (l : Launch) {G : wy_G} {L : List Nat} {f : Nat → va_E} {sz : Nat} {om : Nat} {ma : Nat → Nat} {n : Nat} {km mn : Int32} {wk : Nat} {th : Int32} {po : Nat → Int32} {rr : Nat → wr_V} {g0 g1 g2 g3 g4 g5 g6 g7 g8 g9 : Nat → Int32} {t : Nat} (hq : wm_S G L f om ma n km mn wk th g0 g1 g2 g3 g4 g5 g6 g7 g8 g9) (hm : wm_r po rr g0 g1 g2 g3 g4 g5 g6 g7 g8 g9) (hi : ∀ k, k < 40 → wi t (rr k)) (ht1 : t + 1 ≤ 512) (p1 : Int32) : Met l yX2_balance wsX2_balance ({ frames := 5, cells := 0, slots := 0, locals := 118 } : Room) (va_Pc [.ref om, .int p1] (wy_W G L f sz)) (wy_Q G (wm_p G L om ma (if okC 5 p1 = 0 then n else n) (if okC 5 p1 = 0 then km else km) (if okC 5 p1 = 0 then mn else mn) (if okC 5 p1 = 0 then wk else wk) (if okC 5 p1 = 0 then po else po) (if okC 5 p1 = 0 then rr else rr) (okC 5 p1) (some (.int (if okC 5 p1 = 0 then dueS rr n po wk (ix p1) else 0)))) (wy_A L sz)) 0 0 (wy_A L sz) := by
  refine Met.ofW (cc := cX2_balance) (maxL := 2) (ret := (some .int)) (by decide) rfl ?_
  intro p e s m args below meth c s₁ B hml hv
  obtain ⟨rfl, hv⟩ := hv
  obtain ⟨hw, hK, hA⟩ := wy_start hv
  have hsz := hv.1
  subst hsz
  have hx := B.exec
  have hb := B.bytes
  have hr := B.returns
  have hts := atoms_spec (ws := wsX2_balance) B.pre
  have hown : s.vm.findClass RX2 = some m.cls := findClass_of_methodNamed B.named
  have hlocks := B.notSynchronized
  have hinX2 : ∀ w ∈ wsX20, w ∈ wsX2_balance := by decide +kernel
  have hn : n ≤ 40 := hq.2.2.2.2.2.2.2.2.2.2.2.2.2.1
  have hwk : wk ≤ 20 := hq.2.2.2.2.2.2.2.2.2.2.2.2.2.2
  have hsN : ∀ v r, stN v r < 2 ^ 31 := fun v r => by unfold stN; split <;> (try split) <;> (try split) <;> decide
  have hdN : ∀ v r, dpN v r < 2 ^ 31 := fun v r => by unfold dpN; split <;> (try split) <;> (try split) <;> decide
  have hd1 := hq.2.2.2.2.2.2.2.2.2.2.2.1
  have hd2 := hq.2.2.2.2.2.2.2.2.2.2.2.2.1
  have ht : t ≤ 512 := by omega
  have hl := lv_entry ([.ref om, .int p1]) (n := 2) (Nat.le_of_ble_eq_true rfl)
  rw [lg_entry_eq]
  generalize (lg_sl ([.ref om, .int p1]) ++ List.replicate (2 - (lg_sl ([.ref om, .int p1])).length) Slot.unset).toArray = ls at hl ⊢
  have hl : lv_has ls 2 [(0, .ref om), (1, .int p1)] := hl
  refine lv_aload_n hx hb dX2_balance_0 rfl (lv_at hl 0 rfl) ?_
  refine lv_iload_n hx hb dX2_balance_1 rfl (lv_at hl 1 rfl) ?_
  refine vp_callSi (W.runS (As := [.int p1]) (rest := [.ref om]) ⟨hx, hb, hml, hown, hts⟩ (m_X2_isDriver l (p1)) (va_cwS 1 hts gX2_balance_X2_isDriver rfl rfl rfl (by decide +kernel) ⟨Nat.le_of_ble_eq_true rfl, Nat.le_of_ble_eq_true rfl⟩) (wy_pSN) rfl rfl hl.1 rfl (lv_room (Nat.le_of_ble_eq_true rfl)) dX2_balance_2 ⟨Nat.le_of_ble_eq_true rfl, Nat.le_of_ble_eq_true rfl⟩) (fun r_1 er_1 => ?_)
  refine lv_if_eq (tgt := 12) hx hb dX2_balance_5 (by decide) (fun c_2 => ?_) (fun c_2 => ?_)
  · have bc_2 : (okN 5 p1) = false := bI_0 (er_1.symm.trans c_2)
    refine lv_iconst (v := 1) hx hb dX2_balance_12 (by decide) ?_
    refine wy_call (va_runV (As := [.int 1]) (rest := []) ⟨hx, hb, hml, hown, hts⟩ (m_X2_fails l hq (1)) (cwV 1 hts gX2_balance_X2_fails rfl rfl rfl (by decide +kernel) ⟨Nat.le_of_ble_eq_true rfl, Nat.le_of_ble_eq_true rfl⟩) (wy_pVW hK hw hq.1 rfl) rfl rfl hl.1 rfl (lv_room (Nat.le_of_ble_eq_true rfl)) dX2_balance_13 ⟨Nat.le_of_ble_eq_true rfl, Nat.le_of_ble_eq_true rfl⟩) hw hA (fun rw_3 Lw_3 fw_3 H locs hpost hw => ?_)
    obtain ⟨er_3, eL_3, hq⟩ := hpost
    subst er_3
    obtain rfl := eL_3.symm
    rw [show bI (decide ((0 : Int32) < 1)) = 1 from rfl]
    refine lv_if_eq (tgt := 23) hx hb dX2_balance_16 (by decide) (fun c_4 => ?_) (fun c_4 => ?_)
    · exact absurd c_4 (by decide)
    · have bc_4 : (true) = true := bI_1 (fun z => c_4 (rfl.trans z))
      refine lv_iconst (v := 0) hx hb dX2_balance_19 (by decide) ?_
      refine lv_goto (tgt := 32) hx hb dX2_balance_20 (by decide) ?_
      exact wy_iW hx hb hr hlocks dX2_balance_32 hw (Nat.le_of_ble_eq_true rfl) (Nat.le_of_ble_eq_true rfl) (wm_no (by simp [okC, bc_2, bc_4]) (by decide) hq hm)
  · have bc_2 : (okN 5 p1) = true := bI_1 (fun z => c_2 (er_1.trans z))
    obtain ⟨hk5, e1⟩ := okN_ix bc_2 (by omega)
    refine lv_iconst (v := 0) hx hb dX2_balance_8 (by decide) ?_
    refine lv_goto (tgt := 13) hx hb dX2_balance_9 (by decide) ?_
    refine wy_call (va_runV (As := [.int 0]) (rest := []) ⟨hx, hb, hml, hown, hts⟩ (m_X2_fails l hq (0)) (cwV 1 hts gX2_balance_X2_fails rfl rfl rfl (by decide +kernel) ⟨Nat.le_of_ble_eq_true rfl, Nat.le_of_ble_eq_true rfl⟩) (wy_pVW hK hw hq.1 rfl) rfl rfl hl.1 rfl (lv_room (Nat.le_of_ble_eq_true rfl)) dX2_balance_13 ⟨Nat.le_of_ble_eq_true rfl, Nat.le_of_ble_eq_true rfl⟩) hw hA (fun rw_5 Lw_5 fw_5 H locs hpost hw => ?_)
    obtain ⟨er_5, eL_5, hq⟩ := hpost
    subst er_5
    obtain rfl := eL_5.symm
    rw [show bI (decide ((0 : Int32) < 0)) = 0 from rfl]
    refine lv_if_eq (tgt := 23) hx hb dX2_balance_16 (by decide) (fun c_6 => ?_) (fun c_6 => ?_)
    · have bc_6 : (false) = false := bI_0 (rfl.symm.trans c_6)
      refine lv_aload_n hx hb dX2_balance_23 rfl (lv_at hl 0 rfl) ?_
      refine lv_iload_n hx hb dX2_balance_24 rfl (lv_at hl 1 rfl) ?_
      refine lv_aload_n hx hb dX2_balance_25 rfl (lv_at hl 0 rfl) ?_
      refine wy_get (ci := 3) (v := .int (nI wk)) (C := RX2) (T := TX2) (N := 15) hx hb hts hinX2 hown hK hw.1 hq.1 rfl 12 (by decide) (hts (.fieldLink RX2 71 "WheelpayModel" "week" "I") (by decide +kernel)) (fun _ h9 => h9) rfl dX2_balance_26 ?_
      refine vp_callSi (W.runV (As := [.int p1, .int (nI wk)]) (rest := []) ⟨hx, hb, hml, hown, hts⟩ (m_X2_owes l hq hm hi ht (p1) (nI wk) ((ix p1)) (wk) (by omega) (by omega) e1 rfl) (cwV 2 hts gX2_balance_X2_owes rfl rfl rfl (by decide +kernel) ⟨Nat.le_of_ble_eq_true rfl, Nat.le_of_ble_eq_true rfl⟩) (wy_pVR hK hw.1 hq.1 rfl) rfl rfl hl.1 rfl (lv_room (Nat.le_of_ble_eq_true rfl)) dX2_balance_29 ⟨Nat.le_of_ble_eq_true rfl, Nat.le_of_ble_eq_true rfl⟩) (fun r_7 er_7 => ?_)
      exact wy_iW hx hb hr hlocks dX2_balance_32 hw (Nat.le_of_ble_eq_true rfl) (Nat.le_of_ble_eq_true rfl) (wm_ok (by simp [okC, bc_2]) (by rw [er_7]; unfold dueS; rw [← e1]) hq hm)
    · exact absurd rfl c_6
set_option maxHeartbeats 4000000 in
set_option maxRecDepth 100000 in
theorem m_X2_paid (l : Launch) {G : wy_G} {L : List Nat} {f : Nat → va_E} {sz : Nat} {om : Nat} {ma : Nat → Nat} {n : Nat} {km mn : Int32} {wk : Nat} {th : Int32} {po : Nat → Int32} {rr : Nat → wr_V} {g0 g1 g2 g3 g4 g5 g6 g7 g8 g9 : Nat → Int32} {t : Nat} (hq : wm_S G L f om ma n km mn wk th g0 g1 g2 g3 g4 g5 g6 g7 g8 g9) (hm : wm_r po rr g0 g1 g2 g3 g4 g5 g6 g7 g8 g9) (hi : ∀ k, k < 40 → wi t (rr k)) (ht1 : t + 1 ≤ 512) (p1 : Int32) : Met l yX2_paid wsX2_paid ({ frames := 2, cells := 0, slots := 0, locals := 42 } : Room) (va_Pc [.ref om, .int p1] (wy_W G L f sz)) (wy_Q G (wm_p G L om ma (if okC 5 p1 = 0 then n else n) (if okC 5 p1 = 0 then km else km) (if okC 5 p1 = 0 then mn else mn) (if okC 5 p1 = 0 then wk else wk) (if okC 5 p1 = 0 then po else po) (if okC 5 p1 = 0 then rr else rr) (okC 5 p1) (some (.int (if okC 5 p1 = 0 then po (ix p1) else 0)))) (wy_A L sz)) 0 0 (wy_A L sz) := by
  refine Met.ofW (cc := cX2_paid) (maxL := 2) (ret := (some .int)) (by decide) rfl ?_
  intro p e s m args below meth c s₁ B hml hv
  obtain ⟨rfl, hv⟩ := hv
  obtain ⟨hw, hK, hA⟩ := wy_start hv
  have hsz := hv.1
  subst hsz
  have hx := B.exec
  have hb := B.bytes
  have hr := B.returns
  have hts := atoms_spec (ws := wsX2_paid) B.pre
  have hown : s.vm.findClass RX2 = some m.cls := findClass_of_methodNamed B.named
  have hlocks := B.notSynchronized
  have hinX2 : ∀ w ∈ wsX20, w ∈ wsX2_paid := by decide +kernel
  have hn : n ≤ 40 := hq.2.2.2.2.2.2.2.2.2.2.2.2.2.1
  have hwk : wk ≤ 20 := hq.2.2.2.2.2.2.2.2.2.2.2.2.2.2
  have hsN : ∀ v r, stN v r < 2 ^ 31 := fun v r => by unfold stN; split <;> (try split) <;> (try split) <;> decide
  have hdN : ∀ v r, dpN v r < 2 ^ 31 := fun v r => by unfold dpN; split <;> (try split) <;> (try split) <;> decide
  have hd1 := hq.2.2.2.2.2.2.2.2.2.2.2.1
  have hd2 := hq.2.2.2.2.2.2.2.2.2.2.2.2.1
  have ht : t ≤ 512 := by omega
  have hl := lv_entry ([.ref om, .int p1]) (n := 2) (Nat.le_of_ble_eq_true rfl)
  rw [lg_entry_eq]
  generalize (lg_sl ([.ref om, .int p1]) ++ List.replicate (2 - (lg_sl ([.ref om, .int p1])).length) Slot.unset).toArray = ls at hl ⊢
  have hl : lv_has ls 2 [(0, .ref om), (1, .int p1)] := hl
  refine lv_aload_n hx hb dX2_paid_0 rfl (lv_at hl 0 rfl) ?_
  refine lv_iload_n hx hb dX2_paid_1 rfl (lv_at hl 1 rfl) ?_
  refine vp_callSi (W.runS (As := [.int p1]) (rest := [.ref om]) ⟨hx, hb, hml, hown, hts⟩ (m_X2_isDriver l (p1)) (va_cwS 1 hts gX2_paid_X2_isDriver rfl rfl rfl (by decide +kernel) ⟨Nat.le_of_ble_eq_true rfl, Nat.le_of_ble_eq_true rfl⟩) (wy_pSN) rfl rfl hl.1 rfl (lv_room (Nat.le_of_ble_eq_true rfl)) dX2_paid_2 ⟨Nat.le_of_ble_eq_true rfl, Nat.le_of_ble_eq_true rfl⟩) (fun r_1 er_1 => ?_)
  refine lv_if_eq (tgt := 12) hx hb dX2_paid_5 (by decide) (fun c_2 => ?_) (fun c_2 => ?_)
  · have bc_2 : (okN 5 p1) = false := bI_0 (er_1.symm.trans c_2)
    refine lv_iconst (v := 1) hx hb dX2_paid_12 (by decide) ?_
    refine wy_call (va_runV (As := [.int 1]) (rest := []) ⟨hx, hb, hml, hown, hts⟩ (m_X2_fails l hq (1)) (cwV 1 hts gX2_paid_X2_fails rfl rfl rfl (by decide +kernel) ⟨Nat.le_of_ble_eq_true rfl, Nat.le_of_ble_eq_true rfl⟩) (wy_pVW hK hw hq.1 rfl) rfl rfl hl.1 rfl (lv_room (Nat.le_of_ble_eq_true rfl)) dX2_paid_13 ⟨Nat.le_of_ble_eq_true rfl, Nat.le_of_ble_eq_true rfl⟩) hw hA (fun rw_3 Lw_3 fw_3 H locs hpost hw => ?_)
    obtain ⟨er_3, eL_3, hq⟩ := hpost
    subst er_3
    obtain rfl := eL_3.symm
    rw [show bI (decide ((0 : Int32) < 1)) = 1 from rfl]
    refine lv_if_eq (tgt := 23) hx hb dX2_paid_16 (by decide) (fun c_4 => ?_) (fun c_4 => ?_)
    · exact absurd c_4 (by decide)
    · have bc_4 : (true) = true := bI_1 (fun z => c_4 (rfl.trans z))
      refine lv_iconst (v := 0) hx hb dX2_paid_19 (by decide) ?_
      refine lv_goto (tgt := 29) hx hb dX2_paid_20 (by decide) ?_
      exact wy_iW hx hb hr hlocks dX2_paid_29 hw (Nat.le_of_ble_eq_true rfl) (Nat.le_of_ble_eq_true rfl) (wm_no (by simp [okC, bc_2, bc_4]) (by decide) hq hm)
  · have bc_2 : (okN 5 p1) = true := bI_1 (fun z => c_2 (er_1.trans z))
    obtain ⟨hk5, e1⟩ := okN_ix bc_2 (by omega)
    refine lv_iconst (v := 0) hx hb dX2_paid_8 (by decide) ?_
    refine lv_goto (tgt := 13) hx hb dX2_paid_9 (by decide) ?_
    refine wy_call (va_runV (As := [.int 0]) (rest := []) ⟨hx, hb, hml, hown, hts⟩ (m_X2_fails l hq (0)) (cwV 1 hts gX2_paid_X2_fails rfl rfl rfl (by decide +kernel) ⟨Nat.le_of_ble_eq_true rfl, Nat.le_of_ble_eq_true rfl⟩) (wy_pVW hK hw hq.1 rfl) rfl rfl hl.1 rfl (lv_room (Nat.le_of_ble_eq_true rfl)) dX2_paid_13 ⟨Nat.le_of_ble_eq_true rfl, Nat.le_of_ble_eq_true rfl⟩) hw hA (fun rw_5 Lw_5 fw_5 H locs hpost hw => ?_)
    obtain ⟨er_5, eL_5, hq⟩ := hpost
    subst er_5
    obtain rfl := eL_5.symm
    rw [show bI (decide ((0 : Int32) < 0)) = 0 from rfl]
    refine lv_if_eq (tgt := 23) hx hb dX2_paid_16 (by decide) (fun c_6 => ?_) (fun c_6 => ?_)
    · have bc_6 : (false) = false := bI_0 (rfl.symm.trans c_6)
      refine lv_aload_n hx hb dX2_paid_23 rfl (lv_at hl 0 rfl) ?_
      refine wy_get (ci := 3) (v := .ref (ma 9)) (C := RX2) (T := TX2) (N := 15) hx hb hts hinX2 hown hK hw.1 hq.1 rfl 13 (by decide) (hts (.fieldLink RX2 45 "WheelpayModel" "paid" "[I") (by decide +kernel)) (fun _ h9 => h9) rfl dX2_paid_24 ?_
      refine lv_iload_n hx hb dX2_paid_27 rfl (lv_at hl 1 rfl) ?_
      refine wy_iald hx hb hK hw.1 hq.2.2.2.2.2.2.2.2.2.2.1 ((ix p1)) e1 (by omega) (by omega) dX2_paid_28 ?_
      rw [show g9 ((ix p1)) = po (ix p1) from hm.2 ((ix p1)) (by omega)]
      exact wy_iW hx hb hr hlocks dX2_paid_29 hw (Nat.le_of_ble_eq_true rfl) (Nat.le_of_ble_eq_true rfl) (wm_ok (by simp [okC, bc_2]) rfl hq hm)
    · exact absurd rfl c_6
set_option maxHeartbeats 4000000 in
set_option maxRecDepth 100000 in
theorem m_X2_spent (l : Launch) {G : wy_G} {L : List Nat} {f : Nat → va_E} {sz : Nat} {om : Nat} {ma : Nat → Nat} {n : Nat} {km mn : Int32} {wk : Nat} {th : Int32} {po : Nat → Int32} {rr : Nat → wr_V} {g0 g1 g2 g3 g4 g5 g6 g7 g8 g9 : Nat → Int32} {t : Nat} (hq : wm_S G L f om ma n km mn wk th g0 g1 g2 g3 g4 g5 g6 g7 g8 g9) (hm : wm_r po rr g0 g1 g2 g3 g4 g5 g6 g7 g8 g9) (hi : ∀ k, k < 40 → wi t (rr k)) (ht1 : t + 1 ≤ 512) (p1 : Int32) : Met l yX2_spent wsX2_spent ({ frames := 1, cells := 0, slots := 0, locals := 25 } : Room) (va_Pc [.ref om, .int p1] (wy_W G L f sz)) (wy_Q G (wm_p G L om ma (if okC 10 p1 = 0 then n else n) (if okC 10 p1 = 0 then km else km) (if okC 10 p1 = 0 then mn else mn) (if okC 10 p1 = 0 then wk else wk) (if okC 10 p1 = 0 then po else po) (if okC 10 p1 = 0 then rr else rr) (okC 10 p1) (some (.int (if okC 10 p1 = 0 then spdS rr n (ix p1) else 0)))) (wy_A L sz)) 0 0 (wy_A L sz) := by
  refine Met.ofW (cc := cX2_spent) (maxL := 2) (ret := (some .int)) (by decide) rfl ?_
  intro p e s m args below meth c s₁ B hml hv
  obtain ⟨rfl, hv⟩ := hv
  obtain ⟨hw, hK, hA⟩ := wy_start hv
  have hsz := hv.1
  subst hsz
  have hx := B.exec
  have hb := B.bytes
  have hr := B.returns
  have hts := atoms_spec (ws := wsX2_spent) B.pre
  have hown : s.vm.findClass RX2 = some m.cls := findClass_of_methodNamed B.named
  have hlocks := B.notSynchronized
  have hn : n ≤ 40 := hq.2.2.2.2.2.2.2.2.2.2.2.2.2.1
  have hwk : wk ≤ 20 := hq.2.2.2.2.2.2.2.2.2.2.2.2.2.2
  have hsN : ∀ v r, stN v r < 2 ^ 31 := fun v r => by unfold stN; split <;> (try split) <;> (try split) <;> decide
  have hdN : ∀ v r, dpN v r < 2 ^ 31 := fun v r => by unfold dpN; split <;> (try split) <;> (try split) <;> decide
  have hd1 := hq.2.2.2.2.2.2.2.2.2.2.2.1
  have hd2 := hq.2.2.2.2.2.2.2.2.2.2.2.2.1
  have ht : t ≤ 512 := by omega
  have hl := lv_entry ([.ref om, .int p1]) (n := 2) (Nat.le_of_ble_eq_true rfl)
  rw [lg_entry_eq]
  generalize (lg_sl ([.ref om, .int p1]) ++ List.replicate (2 - (lg_sl ([.ref om, .int p1])).length) Slot.unset).toArray = ls at hl ⊢
  have hl : lv_has ls 2 [(0, .ref om), (1, .int p1)] := hl
  refine lv_aload_n hx hb dX2_spent_0 rfl (lv_at hl 0 rfl) ?_
  refine lv_iload_n hx hb dX2_spent_1 rfl (lv_at hl 1 rfl) ?_
  refine lv_iconst (v := 0) hx hb dX2_spent_2 (by decide) ?_
  refine lv_bipush (v := 9) hx hb dX2_spent_3 (by decide) ?_
  refine vp_callSi (W.runS (As := [.int p1, .int 0, .int 9]) (rest := [.ref om]) ⟨hx, hb, hml, hown, hts⟩ (m_X2_isIn l (p1) (0) (9)) (va_cwS 3 hts gX2_spent_X2_isIn rfl rfl rfl (by decide +kernel) ⟨Nat.le_of_ble_eq_true rfl, Nat.le_of_ble_eq_true rfl⟩) (wy_pSN) rfl rfl hl.1 rfl (lv_room (Nat.le_of_ble_eq_true rfl)) dX2_spent_5 ⟨Nat.le_of_ble_eq_true rfl, Nat.le_of_ble_eq_true rfl⟩) (fun r_1 er_1 => ?_)
  have hr_2 : r_1 = bI (okN 10 p1) := er_1.trans (congrArg bI (rng_okN (n := 10) (by decide) rfl (fun z => absurd z (by decide))))
  refine lv_if_eq (tgt := 15) hx hb dX2_spent_8 (by decide) (fun c_3 => ?_) (fun c_3 => ?_)
  · have bc_3 : (okN 10 p1) = false := bI_0 (hr_2.symm.trans c_3)
    refine lv_iconst (v := 1) hx hb dX2_spent_15 (by decide) ?_
    refine wy_call (va_runV (As := [.int 1]) (rest := []) ⟨hx, hb, hml, hown, hts⟩ (m_X2_fails l hq (1)) (cwV 1 hts gX2_spent_X2_fails rfl rfl rfl (by decide +kernel) ⟨Nat.le_of_ble_eq_true rfl, Nat.le_of_ble_eq_true rfl⟩) (wy_pVW hK hw hq.1 rfl) rfl rfl hl.1 rfl (lv_room (Nat.le_of_ble_eq_true rfl)) dX2_spent_16 ⟨Nat.le_of_ble_eq_true rfl, Nat.le_of_ble_eq_true rfl⟩) hw hA (fun rw_4 Lw_4 fw_4 H locs hpost hw => ?_)
    obtain ⟨er_4, eL_4, hq⟩ := hpost
    subst er_4
    obtain rfl := eL_4.symm
    rw [show bI (decide ((0 : Int32) < 1)) = 1 from rfl]
    refine lv_if_eq (tgt := 26) hx hb dX2_spent_19 (by decide) (fun c_5 => ?_) (fun c_5 => ?_)
    · exact absurd c_5 (by decide)
    · have bc_5 : (true) = true := bI_1 (fun z => c_5 (rfl.trans z))
      refine lv_iconst (v := 0) hx hb dX2_spent_22 (by decide) ?_
      refine lv_goto (tgt := 32) hx hb dX2_spent_23 (by decide) ?_
      exact wy_iW hx hb hr hlocks dX2_spent_32 hw (Nat.le_of_ble_eq_true rfl) (Nat.le_of_ble_eq_true rfl) (wm_no (by simp [okC, bc_3, bc_5]) (by decide) hq hm)
  · have bc_3 : (okN 10 p1) = true := bI_1 (fun z => c_3 (hr_2.trans z))
    obtain ⟨hk5, e1⟩ := okN_ix bc_3 (by omega)
    refine lv_iconst (v := 0) hx hb dX2_spent_11 (by decide) ?_
    refine lv_goto (tgt := 16) hx hb dX2_spent_12 (by decide) ?_
    refine wy_call (va_runV (As := [.int 0]) (rest := []) ⟨hx, hb, hml, hown, hts⟩ (m_X2_fails l hq (0)) (cwV 1 hts gX2_spent_X2_fails rfl rfl rfl (by decide +kernel) ⟨Nat.le_of_ble_eq_true rfl, Nat.le_of_ble_eq_true rfl⟩) (wy_pVW hK hw hq.1 rfl) rfl rfl hl.1 rfl (lv_room (Nat.le_of_ble_eq_true rfl)) dX2_spent_16 ⟨Nat.le_of_ble_eq_true rfl, Nat.le_of_ble_eq_true rfl⟩) hw hA (fun rw_6 Lw_6 fw_6 H locs hpost hw => ?_)
    obtain ⟨er_6, eL_6, hq⟩ := hpost
    subst er_6
    obtain rfl := eL_6.symm
    rw [show bI (decide ((0 : Int32) < 0)) = 0 from rfl]
    refine lv_if_eq (tgt := 26) hx hb dX2_spent_19 (by decide) (fun c_7 => ?_) (fun c_7 => ?_)
    · have bc_7 : (false) = false := bI_0 (rfl.symm.trans c_7)
      refine lv_aload_n hx hb dX2_spent_26 rfl (lv_at hl 0 rfl) ?_
      refine lv_iload_n hx hb dX2_spent_27 rfl (lv_at hl 1 rfl) ?_
      refine lv_iconst (v := 1) hx hb dX2_spent_28 (by decide) ?_
      rw [show (1 : Int32) = bI true from rfl]
      refine vp_callSi (W.runV (As := [.int p1, .int (bI true)]) (rest := []) ⟨hx, hb, hml, hown, hts⟩ (m_X2_spends l hq hm hi ht (p1) ((ix p1)) (by omega) e1 true) (cwV 2 hts gX2_spent_X2_spends rfl rfl rfl (by decide +kernel) ⟨Nat.le_of_ble_eq_true rfl, Nat.le_of_ble_eq_true rfl⟩) (wy_pVR hK hw.1 hq.1 rfl) rfl rfl hl.1 rfl (lv_room (Nat.le_of_ble_eq_true rfl)) dX2_spent_29 ⟨Nat.le_of_ble_eq_true rfl, Nat.le_of_ble_eq_true rfl⟩) (fun r_8 er_8 => ?_)
      exact wy_iW hx hb hr hlocks dX2_spent_32 hw (Nat.le_of_ble_eq_true rfl) (Nat.le_of_ble_eq_true rfl) (wm_ok (by simp [okC, bc_3]) (by rw [er_8]; rfl) hq hm)
    · exact absurd rfl c_7
set_option maxHeartbeats 4000000 in
set_option maxRecDepth 100000 in
theorem m_X2_week (l : Launch) {G : wy_G} {L : List Nat} {f : Nat → va_E} {sz : Nat} {om : Nat} {ma : Nat → Nat} {n : Nat} {km mn : Int32} {wk : Nat} {th : Int32} {g0 g1 g2 g3 g4 g5 g6 g7 g8 g9 : Nat → Int32} (hq : wm_S G L f om ma n km mn wk th g0 g1 g2 g3 g4 g5 g6 g7 g8 g9) : Met l yX2_week wsX2_week ({ frames := 1, cells := 0, slots := 0, locals := 21 } : Room) (va_Pc [.ref om] (wy_W G L f sz)) (wy_Q G (wm_t G L om ma n km mn wk 0 g0 g1 g2 g3 g4 g5 g6 g7 g8 g9 (some (.int (nI wk)))) (wy_A L sz)) 0 0 (wy_A L sz) := by
  refine Met.ofW (cc := cX2_week) (maxL := 1) (ret := (some .int)) (by decide) rfl ?_
  intro p e s m args below meth c s₁ B hml hv
  obtain ⟨rfl, hv⟩ := hv
  obtain ⟨hw, hK, hA⟩ := wy_start hv
  have hsz := hv.1
  subst hsz
  have hx := B.exec
  have hb := B.bytes
  have hr := B.returns
  have hts := atoms_spec (ws := wsX2_week) B.pre
  have hown : s.vm.findClass RX2 = some m.cls := findClass_of_methodNamed B.named
  have hlocks := B.notSynchronized
  have hinX2 : ∀ w ∈ wsX20, w ∈ wsX2_week := by decide +kernel
  have hn : n ≤ 40 := hq.2.2.2.2.2.2.2.2.2.2.2.2.2.1
  have hwk : wk ≤ 20 := hq.2.2.2.2.2.2.2.2.2.2.2.2.2.2
  have hsN : ∀ v r, stN v r < 2 ^ 31 := fun v r => by unfold stN; split <;> (try split) <;> (try split) <;> decide
  have hdN : ∀ v r, dpN v r < 2 ^ 31 := fun v r => by unfold dpN; split <;> (try split) <;> (try split) <;> decide
  have hd1 := hq.2.2.2.2.2.2.2.2.2.2.2.1
  have hd2 := hq.2.2.2.2.2.2.2.2.2.2.2.2.1
  have hl := lv_entry ([.ref om]) (n := 1) (Nat.le_of_ble_eq_true rfl)
  rw [lg_entry_eq]
  generalize (lg_sl ([.ref om]) ++ List.replicate (1 - (lg_sl ([.ref om])).length) Slot.unset).toArray = ls at hl ⊢
  have hl : lv_has ls 1 [(0, .ref om)] := hl
  refine lv_aload_n hx hb dX2_week_0 rfl (lv_at hl 0 rfl) ?_
  refine lv_aload_n hx hb dX2_week_1 rfl (lv_at hl 0 rfl) ?_
  refine wy_get (ci := 3) (v := .int (nI wk)) (C := RX2) (T := TX2) (N := 15) hx hb hts hinX2 hown hK hw.1 hq.1 rfl 12 (by decide) (hts (.fieldLink RX2 71 "WheelpayModel" "week" "I") (by decide +kernel)) (fun _ h9 => h9) rfl dX2_week_2 ?_
  refine wy_call (va_runV (As := [.int (nI wk)]) (rest := []) ⟨hx, hb, hml, hown, hts⟩ (m_X2_tells l hq (nI wk)) (cwV 1 hts gX2_week_X2_tells rfl rfl rfl (by decide +kernel) ⟨Nat.le_of_ble_eq_true rfl, Nat.le_of_ble_eq_true rfl⟩) (wy_pVW hK hw hq.1 rfl) rfl rfl hl.1 rfl (lv_room (Nat.le_of_ble_eq_true rfl)) dX2_week_5 ⟨Nat.le_of_ble_eq_true rfl, Nat.le_of_ble_eq_true rfl⟩) hw hA (fun rw_1 Lw_1 fw_1 H locs hpost hw => ?_)
  obtain ⟨er_1, eL_1, hq⟩ := hpost
  subst er_1
  obtain rfl := eL_1.symm
  exact wy_iW hx hb hr hlocks dX2_week_8 hw (Nat.le_of_ble_eq_true rfl) (Nat.le_of_ble_eq_true rfl) ⟨rfl, rfl, hq⟩
set_option maxHeartbeats 4000000 in
set_option maxRecDepth 100000 in
theorem m_X2_isVoid (l : Launch) {G : wy_G} {L : List Nat} {f : Nat → va_E} {sz : Nat} {om : Nat} {ma : Nat → Nat} {n : Nat} {km mn : Int32} {wk : Nat} {th : Int32} {po : Nat → Int32} {rr : Nat → wr_V} {g0 g1 g2 g3 g4 g5 g6 g7 g8 g9 : Nat → Int32} {t : Nat} (hq : wm_S G L f om ma n km mn wk th g0 g1 g2 g3 g4 g5 g6 g7 g8 g9) (hm : wm_r po rr g0 g1 g2 g3 g4 g5 g6 g7 g8 g9) (hi : ∀ k, k < 40 → wi t (rr k)) (ht1 : t + 1 ≤ 512) (p1 : Int32) : Met l yX2_isVoid wsX2_isVoid ({ frames := 2, cells := 0, slots := 0, locals := 43 } : Room) (va_Pc [.ref om, .int p1] (wy_W G L f sz)) (wy_Q G (wm_p G L om ma (if okC n p1 = 0 then n else n) (if okC n p1 = 0 then km else km) (if okC n p1 = 0 then mn else mn) (if okC n p1 = 0 then wk else wk) (if okC n p1 = 0 then po else po) (if okC n p1 = 0 then rr else rr) (okC n p1) (some (.int (if okC n p1 = 0 then bI (voidR (rr (ix p1))) else 0)))) (wy_A L sz)) 0 0 (wy_A L sz) := by
  refine Met.ofW (cc := cX2_isVoid) (maxL := 2) (ret := (some .boolean)) (by decide) rfl ?_
  intro p e s m args below meth c s₁ B hml hv
  obtain ⟨rfl, hv⟩ := hv
  obtain ⟨hw, hK, hA⟩ := wy_start hv
  have hsz := hv.1
  subst hsz
  have hx := B.exec
  have hb := B.bytes
  have hr := B.returns
  have hts := atoms_spec (ws := wsX2_isVoid) B.pre
  have hown : s.vm.findClass RX2 = some m.cls := findClass_of_methodNamed B.named
  have hlocks := B.notSynchronized
  have hn : n ≤ 40 := hq.2.2.2.2.2.2.2.2.2.2.2.2.2.1
  have hwk : wk ≤ 20 := hq.2.2.2.2.2.2.2.2.2.2.2.2.2.2
  have hsN : ∀ v r, stN v r < 2 ^ 31 := fun v r => by unfold stN; split <;> (try split) <;> (try split) <;> decide
  have hdN : ∀ v r, dpN v r < 2 ^ 31 := fun v r => by unfold dpN; split <;> (try split) <;> (try split) <;> decide
  have hd1 := hq.2.2.2.2.2.2.2.2.2.2.2.1
  have hd2 := hq.2.2.2.2.2.2.2.2.2.2.2.2.1
  have ht : t ≤ 512 := by omega
  have hl := lv_entry ([.ref om, .int p1]) (n := 2) (Nat.le_of_ble_eq_true rfl)
  rw [lg_entry_eq]
  generalize (lg_sl ([.ref om, .int p1]) ++ List.replicate (2 - (lg_sl ([.ref om, .int p1])).length) Slot.unset).toArray = ls at hl ⊢
  have hl : lv_has ls 2 [(0, .ref om), (1, .int p1)] := hl
  refine lv_aload_n hx hb dX2_isVoid_0 rfl (lv_at hl 0 rfl) ?_
  refine lv_aload_n hx hb dX2_isVoid_1 rfl (lv_at hl 0 rfl) ?_
  refine lv_iload_n hx hb dX2_isVoid_2 rfl (lv_at hl 1 rfl) ?_
  refine vp_callSi (W.runV (As := [.int p1]) (rest := [.ref om]) ⟨hx, hb, hml, hown, hts⟩ (m_X2_isRide l hq hm hi ht (p1)) (cwV 1 hts gX2_isVoid_X2_isRide rfl rfl rfl (by decide +kernel) ⟨Nat.le_of_ble_eq_true rfl, Nat.le_of_ble_eq_true rfl⟩) (wy_pVR hK hw.1 hq.1 rfl) rfl rfl hl.1 rfl (lv_room (Nat.le_of_ble_eq_true rfl)) dX2_isVoid_3 ⟨Nat.le_of_ble_eq_true rfl, Nat.le_of_ble_eq_true rfl⟩) (fun r_1 er_1 => ?_)
  refine lv_if_eq (tgt := 13) hx hb dX2_isVoid_6 (by decide) (fun c_2 => ?_) (fun c_2 => ?_)
  · have bc_2 : (okN n p1) = false := bI_0 (er_1.symm.trans c_2)
    refine lv_iconst (v := 1) hx hb dX2_isVoid_13 (by decide) ?_
    refine wy_call (va_runV (As := [.int 1]) (rest := []) ⟨hx, hb, hml, hown, hts⟩ (m_X2_fails l hq (1)) (cwV 1 hts gX2_isVoid_X2_fails rfl rfl rfl (by decide +kernel) ⟨Nat.le_of_ble_eq_true rfl, Nat.le_of_ble_eq_true rfl⟩) (wy_pVW hK hw hq.1 rfl) rfl rfl hl.1 rfl (lv_room (Nat.le_of_ble_eq_true rfl)) dX2_isVoid_14 ⟨Nat.le_of_ble_eq_true rfl, Nat.le_of_ble_eq_true rfl⟩) hw hA (fun rw_3 Lw_3 fw_3 H locs hpost hw => ?_)
    obtain ⟨er_3, eL_3, hq⟩ := hpost
    subst er_3
    obtain rfl := eL_3.symm
    rw [show bI (decide ((0 : Int32) < 1)) = 1 from rfl]
    refine lv_if_ne (tgt := 32) hx hb dX2_isVoid_17 (by decide) (fun c_4 => ?_) (fun c_4 => ?_)
    · have bc_4 : (true) = true := bI_1 (fun z => c_4 (rfl.trans z))
      refine lv_iconst (v := 0) hx hb dX2_isVoid_32 (by decide) ?_
      exact wy_zW (b := false) rfl hx hb hr hlocks dX2_isVoid_33 hw (Nat.le_of_ble_eq_true rfl) (Nat.le_of_ble_eq_true rfl) (wm_no (by simp [okC, bc_2, bc_4]) (by decide) hq hm)
    · exact absurd c_4 (by decide)
  · have bc_2 : (okN n p1) = true := bI_1 (fun z => c_2 (er_1.trans z))
    obtain ⟨hk1, e1⟩ := okN_ix bc_2 (by omega)
    have hk40 : ix p1 < 40 := by omega
    refine lv_iconst (v := 0) hx hb dX2_isVoid_9 (by decide) ?_
    refine lv_goto (tgt := 14) hx hb dX2_isVoid_10 (by decide) ?_
    refine wy_call (va_runV (As := [.int 0]) (rest := []) ⟨hx, hb, hml, hown, hts⟩ (m_X2_fails l hq (0)) (cwV 1 hts gX2_isVoid_X2_fails rfl rfl rfl (by decide +kernel) ⟨Nat.le_of_ble_eq_true rfl, Nat.le_of_ble_eq_true rfl⟩) (wy_pVW hK hw hq.1 rfl) rfl rfl hl.1 rfl (lv_room (Nat.le_of_ble_eq_true rfl)) dX2_isVoid_14 ⟨Nat.le_of_ble_eq_true rfl, Nat.le_of_ble_eq_true rfl⟩) hw hA (fun rw_5 Lw_5 fw_5 H locs hpost hw => ?_)
    obtain ⟨er_5, eL_5, hq⟩ := hpost
    subst er_5
    obtain rfl := eL_5.symm
    rw [show bI (decide ((0 : Int32) < 0)) = 0 from rfl]
    refine lv_if_ne (tgt := 32) hx hb dX2_isVoid_17 (by decide) (fun c_6 => ?_) (fun c_6 => ?_)
    · exact absurd rfl c_6
    · have bc_6 : (false) = false := bI_0 (rfl.symm.trans c_6)
      refine lv_aload_n hx hb dX2_isVoid_20 rfl (lv_at hl 0 rfl) ?_
      refine lv_iload_n hx hb dX2_isVoid_21 rfl (lv_at hl 1 rfl) ?_
      refine vp_callSi (W.runV (As := [.int p1]) (rest := []) ⟨hx, hb, hml, hown, hts⟩ (m_X2_isVoided l hq hm hi ht (p1) ((ix p1)) (by omega) e1) (cwV 1 hts gX2_isVoid_X2_isVoided rfl rfl rfl (by decide +kernel) ⟨Nat.le_of_ble_eq_true rfl, Nat.le_of_ble_eq_true rfl⟩) (wy_pVR hK hw.1 hq.1 rfl) rfl rfl hl.1 rfl (lv_room (Nat.le_of_ble_eq_true rfl)) dX2_isVoid_22 ⟨Nat.le_of_ble_eq_true rfl, Nat.le_of_ble_eq_true rfl⟩) (fun r_7 er_7 => ?_)
      refine lv_if_eq (tgt := 32) hx hb dX2_isVoid_25 (by decide) (fun c_8 => ?_) (fun c_8 => ?_)
      · have bc_8 : (voidR (rr (ix p1))) = false := bI_0 (er_7.symm.trans c_8)
        refine lv_iconst (v := 0) hx hb dX2_isVoid_32 (by decide) ?_
        exact wy_zW (b := false) rfl hx hb hr hlocks dX2_isVoid_33 hw (Nat.le_of_ble_eq_true rfl) (Nat.le_of_ble_eq_true rfl) (wm_ok (by simp [okC, bc_2, bc_8]) (by rw [bc_8]) hq hm)
      · have bc_8 : (voidR (rr (ix p1))) = true := bI_1 (fun z => c_8 (er_7.trans z))
        refine lv_iconst (v := 1) hx hb dX2_isVoid_28 (by decide) ?_
        refine lv_goto (tgt := 33) hx hb dX2_isVoid_29 (by decide) ?_
        exact wy_zW (b := true) rfl hx hb hr hlocks dX2_isVoid_33 hw (Nat.le_of_ble_eq_true rfl) (Nat.le_of_ble_eq_true rfl) (wm_ok (by simp [okC, bc_2, bc_8]) (by rw [bc_8]) hq hm)
set_option maxHeartbeats 4000000 in
set_option maxRecDepth 100000 in
theorem m_X2_setRates (l : Launch) {G : wy_G} {L : List Nat} {f : Nat → va_E} {sz : Nat} {om : Nat} {ma : Nat → Nat} {n : Nat} {km mn : Int32} {wk : Nat} {th : Int32} {po : Nat → Int32} {rr : Nat → wr_V} {g0 g1 g2 g3 g4 g5 g6 g7 g8 g9 : Nat → Int32} {t : Nat} (hq : wm_S G L f om ma n km mn wk th g0 g1 g2 g3 g4 g5 g6 g7 g8 g9) (hm : wm_r po rr g0 g1 g2 g3 g4 g5 g6 g7 g8 g9) (hi : ∀ k, k < 40 → wi t (rr k)) (ht1 : t + 1 ≤ 512) (p1 p2 : Int32) : Met l yX2_setRates wsX2_setRates ({ frames := 1, cells := 0, slots := 0, locals := 22 } : Room) (va_Pc [.ref om, .int p1, .int p2] (wy_W G L f sz)) (wy_Q G (wm_p G L om ma n (if srC p1 p2 = 0 then p1 else km) (if srC p1 p2 = 0 then p2 else mn) wk po rr (srC p1 p2) none) (wy_A L sz)) 0 0 (wy_A L sz) := by
  refine Met.ofW (cc := cX2_setRates) (maxL := 3) (ret := none) (by decide) rfl ?_
  intro p e s m args below meth c s₁ B hml hv
  obtain ⟨rfl, hv⟩ := hv
  obtain ⟨hw, hK, hA⟩ := wy_start hv
  have hsz := hv.1
  subst hsz
  have hx := B.exec
  have hb := B.bytes
  have hr := B.returns
  have hts := atoms_spec (ws := wsX2_setRates) B.pre
  have hown : s.vm.findClass RX2 = some m.cls := findClass_of_methodNamed B.named
  have hlocks := B.notSynchronized
  have hinX2 : ∀ w ∈ wsX20, w ∈ wsX2_setRates := by decide +kernel
  have hn : n ≤ 40 := hq.2.2.2.2.2.2.2.2.2.2.2.2.2.1
  have hwk : wk ≤ 20 := hq.2.2.2.2.2.2.2.2.2.2.2.2.2.2
  have hsN : ∀ v r, stN v r < 2 ^ 31 := fun v r => by unfold stN; split <;> (try split) <;> (try split) <;> decide
  have hdN : ∀ v r, dpN v r < 2 ^ 31 := fun v r => by unfold dpN; split <;> (try split) <;> (try split) <;> decide
  have hd1 := hq.2.2.2.2.2.2.2.2.2.2.2.1
  have hd2 := hq.2.2.2.2.2.2.2.2.2.2.2.2.1
  have ht : t ≤ 512 := by omega
  have hl := lv_entry ([.ref om, .int p1, .int p2]) (n := 3) (Nat.le_of_ble_eq_true rfl)
  rw [lg_entry_eq]
  generalize (lg_sl ([.ref om, .int p1, .int p2]) ++ List.replicate (3 - (lg_sl ([.ref om, .int p1, .int p2])).length) Slot.unset).toArray = ls at hl ⊢
  have hl : lv_has ls 3 [(0, .ref om), (1, .int p1), (2, .int p2)] := hl
  refine lv_aload_n hx hb dX2_setRates_0 rfl (lv_at hl 0 rfl) ?_
  refine lv_iload_n hx hb dX2_setRates_1 rfl (lv_at hl 1 rfl) ?_
  refine lv_iconst (v := 0) hx hb dX2_setRates_2 (by decide) ?_
  refine lv_sipush (v := 1000) hx hb dX2_setRates_3 (by decide) ?_
  refine vp_callSi (W.runS (As := [.int p1, .int 0, .int 1000]) (rest := [.ref om]) ⟨hx, hb, hml, hown, hts⟩ (m_X2_isIn l (p1) (0) (1000)) (va_cwS 3 hts gX2_setRates_X2_isIn rfl rfl rfl (by decide +kernel) ⟨Nat.le_of_ble_eq_true rfl, Nat.le_of_ble_eq_true rfl⟩) (wy_pSN) rfl rfl hl.1 rfl (lv_room (Nat.le_of_ble_eq_true rfl)) dX2_setRates_6 ⟨Nat.le_of_ble_eq_true rfl, Nat.le_of_ble_eq_true rfl⟩) (fun r_1 er_1 => ?_)
  refine lv_if_eq (tgt := 27) hx hb dX2_setRates_9 (by decide) (fun c_2 => ?_) (fun c_2 => ?_)
  · have bc_2 : (rngB p1 0 1000) = false := bI_0 (er_1.symm.trans c_2)
    refine lv_iconst (v := 1) hx hb dX2_setRates_27 (by decide) ?_
    refine wy_call (va_runV (As := [.int 1]) (rest := []) ⟨hx, hb, hml, hown, hts⟩ (m_X2_fails l hq (1)) (cwV 1 hts gX2_setRates_X2_fails rfl rfl rfl (by decide +kernel) ⟨Nat.le_of_ble_eq_true rfl, Nat.le_of_ble_eq_true rfl⟩) (wy_pVW hK hw hq.1 rfl) rfl rfl hl.1 rfl (lv_room (Nat.le_of_ble_eq_true rfl)) dX2_setRates_28 ⟨Nat.le_of_ble_eq_true rfl, Nat.le_of_ble_eq_true rfl⟩) hw hA (fun rw_3 Lw_3 fw_3 H locs hpost hw => ?_)
    obtain ⟨er_3, eL_3, hq⟩ := hpost
    subst er_3
    obtain rfl := eL_3.symm
    rw [show bI (decide ((0 : Int32) < 1)) = 1 from rfl]
    refine lv_if_ne (tgt := 44) hx hb dX2_setRates_31 (by decide) (fun c_4 => ?_) (fun c_4 => ?_)
    · have bc_4 : (true) = true := bI_1 (fun z => c_4 (rfl.trans z))
      exact wy_vW hx hb hr hlocks dX2_setRates_44 hw (Nat.le_of_ble_eq_true rfl) (Nat.le_of_ble_eq_true rfl) (by rw [show srC p1 p2 = 1 from (by simp [srC, bc_2, bc_4])]; exact ⟨rfl, rfl, g0, g1, g2, g3, g4, g5, g6, g7, g8, g9, hq, hm⟩)
    · exact absurd c_4 (by decide)
  · have bc_2 : (rngB p1 0 1000) = true := bI_1 (fun z => c_2 (er_1.trans z))
    refine lv_iload_n hx hb dX2_setRates_12 rfl (lv_at hl 2 rfl) ?_
    refine lv_iconst (v := 0) hx hb dX2_setRates_13 (by decide) ?_
    refine lv_sipush (v := 1000) hx hb dX2_setRates_14 (by decide) ?_
    refine vp_callSi (W.runS (As := [.int p2, .int 0, .int 1000]) (rest := [.ref om]) ⟨hx, hb, hml, hown, hts⟩ (m_X2_isIn l (p2) (0) (1000)) (va_cwS 3 hts gX2_setRates_X2_isIn rfl rfl rfl (by decide +kernel) ⟨Nat.le_of_ble_eq_true rfl, Nat.le_of_ble_eq_true rfl⟩) (wy_pSN) rfl rfl hl.1 rfl (lv_room (Nat.le_of_ble_eq_true rfl)) dX2_setRates_17 ⟨Nat.le_of_ble_eq_true rfl, Nat.le_of_ble_eq_true rfl⟩) (fun r_5 er_5 => ?_)
    refine lv_if_eq (tgt := 27) hx hb dX2_setRates_20 (by decide) (fun c_6 => ?_) (fun c_6 => ?_)
    · have bc_6 : (rngB p2 0 1000) = false := bI_0 (er_5.symm.trans c_6)
      refine lv_iconst (v := 1) hx hb dX2_setRates_27 (by decide) ?_
      refine wy_call (va_runV (As := [.int 1]) (rest := []) ⟨hx, hb, hml, hown, hts⟩ (m_X2_fails l hq (1)) (cwV 1 hts gX2_setRates_X2_fails rfl rfl rfl (by decide +kernel) ⟨Nat.le_of_ble_eq_true rfl, Nat.le_of_ble_eq_true rfl⟩) (wy_pVW hK hw hq.1 rfl) rfl rfl hl.1 rfl (lv_room (Nat.le_of_ble_eq_true rfl)) dX2_setRates_28 ⟨Nat.le_of_ble_eq_true rfl, Nat.le_of_ble_eq_true rfl⟩) hw hA (fun rw_7 Lw_7 fw_7 H locs hpost hw => ?_)
      obtain ⟨er_7, eL_7, hq⟩ := hpost
      subst er_7
      obtain rfl := eL_7.symm
      rw [show bI (decide ((0 : Int32) < 1)) = 1 from rfl]
      refine lv_if_ne (tgt := 44) hx hb dX2_setRates_31 (by decide) (fun c_8 => ?_) (fun c_8 => ?_)
      · have bc_8 : (true) = true := bI_1 (fun z => c_8 (rfl.trans z))
        exact wy_vW hx hb hr hlocks dX2_setRates_44 hw (Nat.le_of_ble_eq_true rfl) (Nat.le_of_ble_eq_true rfl) (by rw [show srC p1 p2 = 1 from (by simp [srC, bc_2, bc_6, bc_8])]; exact ⟨rfl, rfl, g0, g1, g2, g3, g4, g5, g6, g7, g8, g9, hq, hm⟩)
      · exact absurd c_8 (by decide)
    · have bc_6 : (rngB p2 0 1000) = true := bI_1 (fun z => c_6 (er_5.trans z))
      refine lv_iconst (v := 0) hx hb dX2_setRates_23 (by decide) ?_
      refine lv_goto (tgt := 28) hx hb dX2_setRates_24 (by decide) ?_
      refine wy_call (va_runV (As := [.int 0]) (rest := []) ⟨hx, hb, hml, hown, hts⟩ (m_X2_fails l hq (0)) (cwV 1 hts gX2_setRates_X2_fails rfl rfl rfl (by decide +kernel) ⟨Nat.le_of_ble_eq_true rfl, Nat.le_of_ble_eq_true rfl⟩) (wy_pVW hK hw hq.1 rfl) rfl rfl hl.1 rfl (lv_room (Nat.le_of_ble_eq_true rfl)) dX2_setRates_28 ⟨Nat.le_of_ble_eq_true rfl, Nat.le_of_ble_eq_true rfl⟩) hw hA (fun rw_9 Lw_9 fw_9 H locs hpost hw => ?_)
      obtain ⟨er_9, eL_9, hq⟩ := hpost
      subst er_9
      obtain rfl := eL_9.symm
      rw [show bI (decide ((0 : Int32) < 0)) = 0 from rfl]
      refine lv_if_ne (tgt := 44) hx hb dX2_setRates_31 (by decide) (fun c_10 => ?_) (fun c_10 => ?_)
      · exact absurd rfl c_10
      · have bc_10 : (false) = false := bI_0 (rfl.symm.trans c_10)
        refine lv_aload_n hx hb dX2_setRates_34 rfl (lv_at hl 0 rfl) ?_
        refine lv_iload_n hx hb dX2_setRates_35 rfl (lv_at hl 1 rfl) ?_
        refine wy_put (ci := 3) (v := .int p1) (ty := .int) (C := RX2) (T := TX2) (N := 15) hx hb hts hinX2 tyX2 tyX2_ok nmX2 hown hK hw hq.1 rfl 0 (by decide) (hts (.fieldLink RX2 7 "WheelpayModel" "byKilometre" "I") (by decide +kernel)) (fun _ h9 => h9) rfl (by decide +kernel) rfl rfl (Nat.le_of_ble_eq_true rfl) dX2_setRates_36 (fun H locs f_11 hs_12 hn_13 hw => ?_)
        have hc_14 := wy_c.ne2 hq.2.1 hn_13 (hd1 0 (by decide)).symm
        have hc_15 := wy_c.ne2 hq.2.2.1 hn_13 (hd1 1 (by decide)).symm
        have hc_16 := wy_c.ne2 hq.2.2.2.1 hn_13 (hd1 2 (by decide)).symm
        have hc_17 := wy_c.ne2 hq.2.2.2.2.1 hn_13 (hd1 3 (by decide)).symm
        have hc_18 := wy_c.ne2 hq.2.2.2.2.2.1 hn_13 (hd1 4 (by decide)).symm
        have hc_19 := wy_c.ne2 hq.2.2.2.2.2.2.1 hn_13 (hd1 5 (by decide)).symm
        have hc_20 := wy_c.ne2 hq.2.2.2.2.2.2.2.1 hn_13 (hd1 6 (by decide)).symm
        have hc_21 := wy_c.ne2 hq.2.2.2.2.2.2.2.2.1 hn_13 (hd1 7 (by decide)).symm
        have hc_22 := wy_c.ne2 hq.2.2.2.2.2.2.2.2.2.1 hn_13 (hd1 8 (by decide)).symm
        have hc_23 := wy_c.ne2 hq.2.2.2.2.2.2.2.2.2.2.1 hn_13 (hd1 9 (by decide)).symm
        have hc_24 : wy_c L f_11 om (.inr (3, [.int p1, .int mn, .int (nI n), .ref (ma 0), .ref (ma 1), .ref (ma 2), .ref (ma 3), .ref (ma 4), .ref (ma 5), .ref (ma 6), .ref (ma 7), .ref (ma 8), .int (nI wk), .ref (ma 9), .int 0])) := hs_12
        refine lv_aload_n hx hb dX2_setRates_39 rfl (lv_at hl 0 rfl) ?_
        refine lv_iload_n hx hb dX2_setRates_40 rfl (lv_at hl 2 rfl) ?_
        refine wy_put (ci := 3) (v := .int p2) (ty := .int) (C := RX2) (T := TX2) (N := 15) hx hb hts hinX2 tyX2 tyX2_ok nmX2 hown hK hw hc_24 rfl 1 (by decide) (hts (.fieldLink RX2 13 "WheelpayModel" "byMinute" "I") (by decide +kernel)) (fun _ h9 => h9) rfl (by decide +kernel) rfl rfl (Nat.le_of_ble_eq_true rfl) dX2_setRates_41 (fun H locs f_25 hs_26 hn_27 hw => ?_)
        have hc_28 := wy_c.ne2 hc_14 hn_27 (hd1 0 (by decide)).symm
        have hc_29 := wy_c.ne2 hc_15 hn_27 (hd1 1 (by decide)).symm
        have hc_30 := wy_c.ne2 hc_16 hn_27 (hd1 2 (by decide)).symm
        have hc_31 := wy_c.ne2 hc_17 hn_27 (hd1 3 (by decide)).symm
        have hc_32 := wy_c.ne2 hc_18 hn_27 (hd1 4 (by decide)).symm
        have hc_33 := wy_c.ne2 hc_19 hn_27 (hd1 5 (by decide)).symm
        have hc_34 := wy_c.ne2 hc_20 hn_27 (hd1 6 (by decide)).symm
        have hc_35 := wy_c.ne2 hc_21 hn_27 (hd1 7 (by decide)).symm
        have hc_36 := wy_c.ne2 hc_22 hn_27 (hd1 8 (by decide)).symm
        have hc_37 := wy_c.ne2 hc_23 hn_27 (hd1 9 (by decide)).symm
        have hc_38 : wy_c L f_25 om (.inr (3, [.int p1, .int p2, .int (nI n), .ref (ma 0), .ref (ma 1), .ref (ma 2), .ref (ma 3), .ref (ma 4), .ref (ma 5), .ref (ma 6), .ref (ma 7), .ref (ma 8), .int (nI wk), .ref (ma 9), .int 0])) := hs_26
        exact wy_vW hx hb hr hlocks dX2_setRates_44 hw (Nat.le_of_ble_eq_true rfl) (Nat.le_of_ble_eq_true rfl) (by rw [show srC p1 p2 = 0 from (by simp [srC, bc_2, bc_6])]; exact ⟨rfl, rfl, g0, g1, g2, g3, g4, g5, g6, g7, g8, g9, ⟨hc_38, hc_28, hc_29, hc_30, hc_31, hc_32, hc_33, hc_34, hc_35, hc_36, hc_37, hd1, hd2, hn, hwk⟩, hm⟩)
set_option maxHeartbeats 4000000 in
set_option maxRecDepth 100000 in
theorem m_X2_start (l : Launch) {G : wy_G} {L : List Nat} {f : Nat → va_E} {sz : Nat} {om : Nat} {ma : Nat → Nat} {n : Nat} {km mn : Int32} {wk : Nat} {th : Int32} {po : Nat → Int32} {rr : Nat → wr_V} {g0 g1 g2 g3 g4 g5 g6 g7 g8 g9 : Nat → Int32} {t : Nat} (hq : wm_S G L f om ma n km mn wk th g0 g1 g2 g3 g4 g5 g6 g7 g8 g9) (hm : wm_r po rr g0 g1 g2 g3 g4 g5 g6 g7 g8 g9) (hi : ∀ k, k < 40 → wi t (rr k)) (ht1 : t + 1 ≤ 512) (p1 : Int32) (hz : ∀ k, n ≤ k → k < 40 → rr k = vNew 0 0) : Met l yX2_start wsX2_start ({ frames := 2, cells := 0, slots := 0, locals := 42 } : Room) (va_Pc [.ref om, .int p1] (wy_W G L f sz)) (wy_Q G (wm_p G L om ma (if stC rr n p1 = 0 then (n + 1) else n) (if stC rr n p1 = 0 then km else km) (if stC rr n p1 = 0 then mn else mn) (if stC rr n p1 = 0 then wk else wk) (if stC rr n p1 = 0 then po else po) (if stC rr n p1 = 0 then va_up rr n (vNew p1 (nI wk)) else rr) (stC rr n p1) (some (.int (if stC rr n p1 = 0 then nI n else 0)))) (wy_A L sz)) 0 0 (wy_A L sz) := by
  refine Met.ofW (cc := cX2_start) (maxL := 2) (ret := (some .int)) (by decide) rfl ?_
  intro p e s m args below meth c s₁ B hml hv
  obtain ⟨rfl, hv⟩ := hv
  obtain ⟨hw, hK, hA⟩ := wy_start hv
  have hsz := hv.1
  subst hsz
  have hx := B.exec
  have hb := B.bytes
  have hr := B.returns
  have hts := atoms_spec (ws := wsX2_start) B.pre
  have hown : s.vm.findClass RX2 = some m.cls := findClass_of_methodNamed B.named
  have hlocks := B.notSynchronized
  have hinX2 : ∀ w ∈ wsX20, w ∈ wsX2_start := by decide +kernel
  have hn : n ≤ 40 := hq.2.2.2.2.2.2.2.2.2.2.2.2.2.1
  have hwk : wk ≤ 20 := hq.2.2.2.2.2.2.2.2.2.2.2.2.2.2
  have hsN : ∀ v r, stN v r < 2 ^ 31 := fun v r => by unfold stN; split <;> (try split) <;> (try split) <;> decide
  have hdN : ∀ v r, dpN v r < 2 ^ 31 := fun v r => by unfold dpN; split <;> (try split) <;> (try split) <;> decide
  have hd1 := hq.2.2.2.2.2.2.2.2.2.2.2.1
  have hd2 := hq.2.2.2.2.2.2.2.2.2.2.2.2.1
  have ht : t ≤ 512 := by omega
  have hl := lv_entry ([.ref om, .int p1]) (n := 2) (Nat.le_of_ble_eq_true rfl)
  rw [lg_entry_eq]
  generalize (lg_sl ([.ref om, .int p1]) ++ List.replicate (2 - (lg_sl ([.ref om, .int p1])).length) Slot.unset).toArray = ls at hl ⊢
  have hl : lv_has ls 2 [(0, .ref om), (1, .int p1)] := hl
  refine lv_aload_n hx hb dX2_start_0 rfl (lv_at hl 0 rfl) ?_
  refine lv_iload_n hx hb dX2_start_1 rfl (lv_at hl 1 rfl) ?_
  refine vp_callSi (W.runS (As := [.int p1]) (rest := [.ref om]) ⟨hx, hb, hml, hown, hts⟩ (m_X2_isDriver l (p1)) (va_cwS 1 hts gX2_start_X2_isDriver rfl rfl rfl (by decide +kernel) ⟨Nat.le_of_ble_eq_true rfl, Nat.le_of_ble_eq_true rfl⟩) (wy_pSN) rfl rfl hl.1 rfl (lv_room (Nat.le_of_ble_eq_true rfl)) dX2_start_2 ⟨Nat.le_of_ble_eq_true rfl, Nat.le_of_ble_eq_true rfl⟩) (fun r_1 er_1 => ?_)
  refine lv_if_ne (tgt := 12) hx hb dX2_start_5 (by decide) (fun c_2 => ?_) (fun c_2 => ?_)
  · have bc_2 : (okN 5 p1) = true := bI_1 (fun z => c_2 (er_1.trans z))
    refine lv_aload_n hx hb dX2_start_12 rfl (lv_at hl 0 rfl) ?_
    refine lv_iload_n hx hb dX2_start_13 rfl (lv_at hl 1 rfl) ?_
    refine vp_callSi (W.runV (As := [.int p1]) (rest := [.ref om]) ⟨hx, hb, hml, hown, hts⟩ (m_X2_isUnderWay l hq hm hi ht (p1)) (cwV 1 hts gX2_start_X2_isUnderWay rfl rfl rfl (by decide +kernel) ⟨Nat.le_of_ble_eq_true rfl, Nat.le_of_ble_eq_true rfl⟩) (wy_pVR hK hw.1 hq.1 rfl) rfl rfl hl.1 rfl (lv_room (Nat.le_of_ble_eq_true rfl)) dX2_start_14 ⟨Nat.le_of_ble_eq_true rfl, Nat.le_of_ble_eq_true rfl⟩) (fun r_3 er_3 => ?_)
    refine lv_if_ne (tgt := 29) hx hb dX2_start_17 (by decide) (fun c_4 => ?_) (fun c_4 => ?_)
    · have bc_4 : (anyB (muB rr p1) n) = true := bI_1 (fun z => c_4 (er_3.trans z))
      have hdrv : drvS rr n p1 = true := (by rw [← muB_drv bc_2]; exact bc_4)
      refine lv_iconst (v := 2) hx hb dX2_start_29 (by decide) ?_
      refine lv_goto (tgt := 34) hx hb dX2_start_30 (by decide) ?_
      refine wy_call (va_runV (As := [.int 2]) (rest := []) ⟨hx, hb, hml, hown, hts⟩ (m_X2_fails l hq (2)) (cwV 1 hts gX2_start_X2_fails rfl rfl rfl (by decide +kernel) ⟨Nat.le_of_ble_eq_true rfl, Nat.le_of_ble_eq_true rfl⟩) (wy_pVW hK hw hq.1 rfl) rfl rfl hl.1 rfl (lv_room (Nat.le_of_ble_eq_true rfl)) dX2_start_34 ⟨Nat.le_of_ble_eq_true rfl, Nat.le_of_ble_eq_true rfl⟩) hw hA (fun rw_5 Lw_5 fw_5 H locs hpost hw => ?_)
      obtain ⟨er_5, eL_5, hq⟩ := hpost
      subst er_5
      obtain rfl := eL_5.symm
      rw [show bI (decide ((0 : Int32) < 2)) = 1 from rfl]
      refine lv_if_eq (tgt := 42) hx hb dX2_start_37 (by decide) (fun c_6 => ?_) (fun c_6 => ?_)
      · exact absurd c_6 (by decide)
      · have bc_6 : (true) = true := bI_1 (fun z => c_6 (rfl.trans z))
        refine lv_iconst (v := 0) hx hb dX2_start_40 (by decide) ?_
        exact wy_iW hx hb hr hlocks dX2_start_41 hw (Nat.le_of_ble_eq_true rfl) (Nat.le_of_ble_eq_true rfl) (wm_no (by simp [stC, bc_2, bc_4, bc_6, hdrv]) (by decide) hq hm)
    · have bc_4 : (anyB (muB rr p1) n) = false := bI_0 (er_3.symm.trans c_4)
      have hdrv : drvS rr n p1 = false := (by rw [← muB_drv bc_2]; exact bc_4)
      refine lv_aload_n hx hb dX2_start_20 rfl (lv_at hl 0 rfl) ?_
      refine wy_get (ci := 3) (v := .int (nI n)) (C := RX2) (T := TX2) (N := 15) hx hb hts hinX2 hown hK hw.1 hq.1 rfl 2 (by decide) (hts (.fieldLink RX2 51 "WheelpayModel" "rides" "I") (by decide +kernel)) (fun _ h9 => h9) rfl dX2_start_21 ?_
      refine lv_bipush (v := 40) hx hb dX2_start_24 (by decide) ?_
      refine lv_icmp_ne (tgt := 33) hx hb dX2_start_26 (by decide) (fun c_7 => ?_) (fun c_7 => ?_)
      · have nc_7 : ¬ (n = 40) := fun z => c_7 ((wy_eq rfl (rfl : (40 : Int32) = nI 40) (by first | omega | exact hsN _ _ | exact hdN _ _ | exact Nat.lt_of_le_of_lt (cb_le _ _) (by omega)) (by decide)).mpr z)
        refine lv_iconst (v := 0) hx hb dX2_start_33 (by decide) ?_
        refine wy_call (va_runV (As := [.int 0]) (rest := []) ⟨hx, hb, hml, hown, hts⟩ (m_X2_fails l hq (0)) (cwV 1 hts gX2_start_X2_fails rfl rfl rfl (by decide +kernel) ⟨Nat.le_of_ble_eq_true rfl, Nat.le_of_ble_eq_true rfl⟩) (wy_pVW hK hw hq.1 rfl) rfl rfl hl.1 rfl (lv_room (Nat.le_of_ble_eq_true rfl)) dX2_start_34 ⟨Nat.le_of_ble_eq_true rfl, Nat.le_of_ble_eq_true rfl⟩) hw hA (fun rw_8 Lw_8 fw_8 H locs hpost hw => ?_)
        obtain ⟨er_8, eL_8, hq⟩ := hpost
        subst er_8
        obtain rfl := eL_8.symm
        rw [show bI (decide ((0 : Int32) < 0)) = 0 from rfl]
        refine lv_if_eq (tgt := 42) hx hb dX2_start_37 (by decide) (fun c_9 => ?_) (fun c_9 => ?_)
        · have bc_9 : (false) = false := bI_0 (rfl.symm.trans c_9)
          refine lv_aload_n hx hb dX2_start_42 rfl (lv_at hl 0 rfl) ?_
          refine wy_get (ci := 3) (v := .ref (ma 0)) (C := RX2) (T := TX2) (N := 15) hx hb hts hinX2 hown hK hw.1 hq.1 rfl 3 (by decide) (hts (.fieldLink RX2 16 "WheelpayModel" "driver" "[I") (by decide +kernel)) (fun _ h9 => h9) rfl dX2_start_43 ?_
          refine lv_aload_n hx hb dX2_start_46 rfl (lv_at hl 0 rfl) ?_
          refine wy_get (ci := 3) (v := .int (nI n)) (C := RX2) (T := TX2) (N := 15) hx hb hts hinX2 hown hK hw.1 hq.1 rfl 2 (by decide) (hts (.fieldLink RX2 51 "WheelpayModel" "rides" "I") (by decide +kernel)) (fun _ h9 => h9) rfl dX2_start_47 ?_
          refine lv_iload_n hx hb dX2_start_50 rfl (lv_at hl 1 rfl) ?_
          refine wy_iast hx hb hK hw hq.2.1 (n) rfl (by omega) (by omega) dX2_start_51 (fun H locs f_10 hs_11 hn_12 hw => ?_)
          have hc_13 := wy_c.ne2 hq.1 hn_12 (hd1 0 (by decide))
          have hc_14 := wy_c.ne2 hq.2.2.1 hn_12 (hd2 1 0 (by decide) (by decide) (by decide))
          have hc_15 := wy_c.ne2 hq.2.2.2.1 hn_12 (hd2 2 0 (by decide) (by decide) (by decide))
          have hc_16 := wy_c.ne2 hq.2.2.2.2.1 hn_12 (hd2 3 0 (by decide) (by decide) (by decide))
          have hc_17 := wy_c.ne2 hq.2.2.2.2.2.1 hn_12 (hd2 4 0 (by decide) (by decide) (by decide))
          have hc_18 := wy_c.ne2 hq.2.2.2.2.2.2.1 hn_12 (hd2 5 0 (by decide) (by decide) (by decide))
          have hc_19 := wy_c.ne2 hq.2.2.2.2.2.2.2.1 hn_12 (hd2 6 0 (by decide) (by decide) (by decide))
          have hc_20 := wy_c.ne2 hq.2.2.2.2.2.2.2.2.1 hn_12 (hd2 7 0 (by decide) (by decide) (by decide))
          have hc_21 := wy_c.ne2 hq.2.2.2.2.2.2.2.2.2.1 hn_12 (hd2 8 0 (by decide) (by decide) (by decide))
          have hc_22 := wy_c.ne2 hq.2.2.2.2.2.2.2.2.2.2.1 hn_12 (hd2 9 0 (by decide) (by decide) (by decide))
          refine lv_aload_n hx hb dX2_start_52 rfl (lv_at hl 0 rfl) ?_
          refine wy_get (ci := 3) (v := .ref (ma 1)) (C := RX2) (T := TX2) (N := 15) hx hb hts hinX2 hown hK hw.1 hc_13 rfl 4 (by decide) (hts (.fieldLink RX2 20 "WheelpayModel" "weekOf" "[I") (by decide +kernel)) (fun _ h9 => h9) rfl dX2_start_53 ?_
          refine lv_aload_n hx hb dX2_start_56 rfl (lv_at hl 0 rfl) ?_
          refine wy_get (ci := 3) (v := .int (nI n)) (C := RX2) (T := TX2) (N := 15) hx hb hts hinX2 hown hK hw.1 hc_13 rfl 2 (by decide) (hts (.fieldLink RX2 51 "WheelpayModel" "rides" "I") (by decide +kernel)) (fun _ h9 => h9) rfl dX2_start_57 ?_
          refine lv_aload_n hx hb dX2_start_60 rfl (lv_at hl 0 rfl) ?_
          refine wy_get (ci := 3) (v := .int (nI wk)) (C := RX2) (T := TX2) (N := 15) hx hb hts hinX2 hown hK hw.1 hc_13 rfl 12 (by decide) (hts (.fieldLink RX2 71 "WheelpayModel" "week" "I") (by decide +kernel)) (fun _ h9 => h9) rfl dX2_start_61 ?_
          refine wy_iast hx hb hK hw hc_14 (n) rfl (by omega) (by omega) dX2_start_64 (fun H locs f_23 hs_24 hn_25 hw => ?_)
          have hc_26 := wy_c.ne2 hc_13 hn_25 (hd1 1 (by decide))
          have hc_27 := wy_c.ne2 hs_11 hn_25 (hd2 0 1 (by decide) (by decide) (by decide))
          have hc_28 := wy_c.ne2 hc_15 hn_25 (hd2 2 1 (by decide) (by decide) (by decide))
          have hc_29 := wy_c.ne2 hc_16 hn_25 (hd2 3 1 (by decide) (by decide) (by decide))
          have hc_30 := wy_c.ne2 hc_17 hn_25 (hd2 4 1 (by decide) (by decide) (by decide))
          have hc_31 := wy_c.ne2 hc_18 hn_25 (hd2 5 1 (by decide) (by decide) (by decide))
          have hc_32 := wy_c.ne2 hc_19 hn_25 (hd2 6 1 (by decide) (by decide) (by decide))
          have hc_33 := wy_c.ne2 hc_20 hn_25 (hd2 7 1 (by decide) (by decide) (by decide))
          have hc_34 := wy_c.ne2 hc_21 hn_25 (hd2 8 1 (by decide) (by decide) (by decide))
          have hc_35 := wy_c.ne2 hc_22 hn_25 (hd2 9 1 (by decide) (by decide) (by decide))
          refine lv_aload_n hx hb dX2_start_65 rfl (lv_at hl 0 rfl) ?_
          refine lv_dup hx hb dX2_start_66 rfl ?_
          refine wy_get (ci := 3) (v := .int (nI n)) (C := RX2) (T := TX2) (N := 15) hx hb hts hinX2 hown hK hw.1 hc_26 rfl 2 (by decide) (hts (.fieldLink RX2 51 "WheelpayModel" "rides" "I") (by decide +kernel)) (fun _ h9 => h9) rfl dX2_start_67 ?_
          refine lv_iconst (v := 1) hx hb dX2_start_70 (by decide) ?_
          refine lv_iadd hx hb dX2_start_71 ?_
          refine lv_topi (fun x_36 ex_36 => ?_)
          have nx_36 : x_36 = nI (n + 1) := ex_36.trans ((congr (congrArg (fun u v : Int32 => u + v) rfl) (rfl : (1 : Int32) = nI 1)).trans (nI_add _ _))
          obtain rfl : x_36 = nI (n + 1) := nx_36
          refine wy_put (ci := 3) (v := .int (nI (n + 1))) (ty := .int) (C := RX2) (T := TX2) (N := 15) hx hb hts hinX2 tyX2 tyX2_ok nmX2 hown hK hw hc_26 rfl 2 (by decide) (hts (.fieldLink RX2 51 "WheelpayModel" "rides" "I") (by decide +kernel)) (fun _ h9 => h9) rfl (by decide +kernel) rfl rfl (Nat.le_of_ble_eq_true rfl) dX2_start_72 (fun H locs f_37 hs_38 hn_39 hw => ?_)
          have hc_40 := wy_c.ne2 hc_27 hn_39 (hd1 0 (by decide)).symm
          have hc_41 := wy_c.ne2 hs_24 hn_39 (hd1 1 (by decide)).symm
          have hc_42 := wy_c.ne2 hc_28 hn_39 (hd1 2 (by decide)).symm
          have hc_43 := wy_c.ne2 hc_29 hn_39 (hd1 3 (by decide)).symm
          have hc_44 := wy_c.ne2 hc_30 hn_39 (hd1 4 (by decide)).symm
          have hc_45 := wy_c.ne2 hc_31 hn_39 (hd1 5 (by decide)).symm
          have hc_46 := wy_c.ne2 hc_32 hn_39 (hd1 6 (by decide)).symm
          have hc_47 := wy_c.ne2 hc_33 hn_39 (hd1 7 (by decide)).symm
          have hc_48 := wy_c.ne2 hc_34 hn_39 (hd1 8 (by decide)).symm
          have hc_49 := wy_c.ne2 hc_35 hn_39 (hd1 9 (by decide)).symm
          have hc_50 : wy_c L f_37 om (.inr (3, [.int km, .int mn, .int (nI (n + 1)), .ref (ma 0), .ref (ma 1), .ref (ma 2), .ref (ma 3), .ref (ma 4), .ref (ma 5), .ref (ma 6), .ref (ma 7), .ref (ma 8), .int (nI wk), .ref (ma 9), .int 0])) := hs_38
          refine lv_aload_n hx hb dX2_start_75 rfl (lv_at hl 0 rfl) ?_
          refine wy_get (ci := 3) (v := .int (nI (n + 1))) (C := RX2) (T := TX2) (N := 15) hx hb hts hinX2 hown hK hw.1 hc_50 rfl 2 (by decide) (hts (.fieldLink RX2 51 "WheelpayModel" "rides" "I") (by decide +kernel)) (fun _ h9 => h9) rfl dX2_start_76 ?_
          refine lv_iconst (v := 1) hx hb dX2_start_79 (by decide) ?_
          refine lv_isub hx hb dX2_start_80 ?_
          refine lv_topi (fun x_51 ex_51 => ?_)
          obtain ⟨g0_52, eg0_52⟩ : ∃ z, z = upd g0 n p1 := ⟨_, rfl⟩
          have hg0_52 : wy_c L f_37 (ma 0) (.inl (G.2 0, 40, .inl g0_52)) := by rw [eg0_52]; exact hc_40
          obtain ⟨g1_53, eg1_53⟩ : ∃ z, z = upd g1 n (nI wk) := ⟨_, rfl⟩
          have hg1_53 : wy_c L f_37 (ma 1) (.inl (G.2 0, 40, .inl g1_53)) := by rw [eg1_53]; exact hc_41
          have hq : wm_S G L f_37 om ma (n + 1) km mn wk 0 g0_52 g1_53 g2 g3 g4 g5 g6 g7 g8 g9 := ⟨hc_50, hg0_52, hg1_53, hc_42, hc_43, hc_44, hc_45, hc_46, hc_47, hc_48, hc_49, hd1, hd2, (by omega), (by omega)⟩
          have hm : wm_r po (va_up rr n (vNew p1 (nI wk))) g0_52 g1_53 g2 g3 g4 g5 g6 g7 g8 g9 := by rw [eg0_52, eg1_53]; exact wm_new hm (by omega) (hz n (Nat.le_refl _) (by omega))
          exact wy_iW hx hb hr hlocks dX2_start_81 hw (Nat.le_of_ble_eq_true rfl) (Nat.le_of_ble_eq_true rfl) (wm_ok (by simp [stC, bc_2, bc_4, hdrv, nc_7]) (by rw [ex_51]; exact nI_pred n) hq hm)
        · exact absurd rfl c_9
      · have nc_7 : n = 40 := (wy_eq rfl (rfl : (40 : Int32) = nI 40) (by first | omega | exact hsN _ _ | exact hdN _ _ | exact Nat.lt_of_le_of_lt (cb_le _ _) (by omega)) (by decide)).mp c_7
        refine lv_iconst (v := 2) hx hb dX2_start_29 (by decide) ?_
        refine lv_goto (tgt := 34) hx hb dX2_start_30 (by decide) ?_
        refine wy_call (va_runV (As := [.int 2]) (rest := []) ⟨hx, hb, hml, hown, hts⟩ (m_X2_fails l hq (2)) (cwV 1 hts gX2_start_X2_fails rfl rfl rfl (by decide +kernel) ⟨Nat.le_of_ble_eq_true rfl, Nat.le_of_ble_eq_true rfl⟩) (wy_pVW hK hw hq.1 rfl) rfl rfl hl.1 rfl (lv_room (Nat.le_of_ble_eq_true rfl)) dX2_start_34 ⟨Nat.le_of_ble_eq_true rfl, Nat.le_of_ble_eq_true rfl⟩) hw hA (fun rw_54 Lw_54 fw_54 H locs hpost hw => ?_)
        obtain ⟨er_54, eL_54, hq⟩ := hpost
        subst er_54
        obtain rfl := eL_54.symm
        rw [show bI (decide ((0 : Int32) < 2)) = 1 from rfl]
        refine lv_if_eq (tgt := 42) hx hb dX2_start_37 (by decide) (fun c_55 => ?_) (fun c_55 => ?_)
        · exact absurd c_55 (by decide)
        · have bc_55 : (true) = true := bI_1 (fun z => c_55 (rfl.trans z))
          refine lv_iconst (v := 0) hx hb dX2_start_40 (by decide) ?_
          exact wy_iW hx hb hr hlocks dX2_start_41 hw (Nat.le_of_ble_eq_true rfl) (Nat.le_of_ble_eq_true rfl) (wm_no (by simp [stC, bc_2, bc_4, bc_55, hdrv, nc_7]) (by decide) hq hm)
  · have bc_2 : (okN 5 p1) = false := bI_0 (er_1.symm.trans c_2)
    refine lv_iconst (v := 1) hx hb dX2_start_8 (by decide) ?_
    refine lv_goto (tgt := 34) hx hb dX2_start_9 (by decide) ?_
    refine wy_call (va_runV (As := [.int 1]) (rest := []) ⟨hx, hb, hml, hown, hts⟩ (m_X2_fails l hq (1)) (cwV 1 hts gX2_start_X2_fails rfl rfl rfl (by decide +kernel) ⟨Nat.le_of_ble_eq_true rfl, Nat.le_of_ble_eq_true rfl⟩) (wy_pVW hK hw hq.1 rfl) rfl rfl hl.1 rfl (lv_room (Nat.le_of_ble_eq_true rfl)) dX2_start_34 ⟨Nat.le_of_ble_eq_true rfl, Nat.le_of_ble_eq_true rfl⟩) hw hA (fun rw_56 Lw_56 fw_56 H locs hpost hw => ?_)
    obtain ⟨er_56, eL_56, hq⟩ := hpost
    subst er_56
    obtain rfl := eL_56.symm
    rw [show bI (decide ((0 : Int32) < 1)) = 1 from rfl]
    refine lv_if_eq (tgt := 42) hx hb dX2_start_37 (by decide) (fun c_57 => ?_) (fun c_57 => ?_)
    · exact absurd c_57 (by decide)
    · have bc_57 : (true) = true := bI_1 (fun z => c_57 (rfl.trans z))
      refine lv_iconst (v := 0) hx hb dX2_start_40 (by decide) ?_
      exact wy_iW hx hb hr hlocks dX2_start_41 hw (Nat.le_of_ble_eq_true rfl) (Nat.le_of_ble_eq_true rfl) (wm_no (by simp [stC, bc_2, bc_57]) (by decide) hq hm)
