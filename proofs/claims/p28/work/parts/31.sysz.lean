set_option maxHeartbeats 4000000 in
set_option maxRecDepth 100000 in
theorem m_X1_setRates (l : Launch) (hnt : l.stackTraces = false) {G : wy_G} {L : List Nat} {f : Nat → va_E} {sz : Nat} {ox lo : Nat} {ra ar : Nat → Nat} {n : Nat} {km mn : Int32} {wk : Nat} {po : Nat → Int32} {rr : Nat → wr_V} (hq : wx_S G L f ox lo ra ar n km mn wk po rr) (p1 p2 : Int32) : vx_Met l yX1_setRates wsX1_setRates ({ frames := 7, cells := 2, slots := 12, locals := 104 } : Room) (va_Pc [.ref ox, .int p1, .int p2] (wt_P G L f sz)) (wy_Q G (wx_p G ox lo n p1 p2 wk po (rr) none (srC p1 p2)) (wy_A L sz)) (wt_X G (pxA (srC p1 p2)) L f (wy_A L sz)) 2 12 (wy_A L sz) := by
  refine vx_ofW (cc := cX1_setRates) (maxL := 3) (ret := none) (by decide) rfl ?_
  intro p e s m args below meth c s₁ B hml htab hv
  obtain ⟨rfl, hv, hE⟩ := hv
  obtain ⟨hw, hK, hA⟩ := wy_start hv
  have hsz := hv.1
  subst hsz
  have hx := B.exec
  have hb := B.bytes
  have hr := B.returns
  have hts := atoms_spec (ws := wsX1_setRates) B.pre
  have hown : s.vm.findClass RX1 = some m.cls := findClass_of_methodNamed B.named
  have hlocks := B.notSynchronized
  have hinX1 : ∀ w ∈ wsX10, w ∈ wsX1_setRates := by decide +kernel
  obtain ⟨md, he, cap, gg, hL1, -⟩ := id hq.2.1
  have hn : n ≤ 40 := hq.2.2.2.2.1
  have hwk : wk ≤ 20 := hq.2.2.2.2.2.1
  have hl := lv_entry ([.ref ox, .int p1, .int p2]) (n := 3) (Nat.le_of_ble_eq_true rfl)
  rw [lg_entry_eq]
  generalize (lg_sl ([.ref ox, .int p1, .int p2]) ++ List.replicate (3 - (lg_sl ([.ref ox, .int p1, .int p2])).length) Slot.unset).toArray = ls at hl ⊢
  have hl : lv_has ls 3 [(0, .ref ox), (1, .int p1), (2, .int p2)] := hl
  refine lv_iload_n hx hb dX1_setRates_0 rfl (lv_at hl 1 rfl) ?_
  refine lv_iconst (v := 0) hx hb dX1_setRates_1 (by decide) ?_
  refine lv_sipush (v := 1000) hx hb dX1_setRates_2 (by decide) ?_
  refine wt_call (fun E h => ⟨h.1, by simp [srC, h.2]⟩) (vx_runS (As := [.int p1, .int 0, .int 1000]) (rest := []) ⟨hx, hb, hml, hown, hts⟩ (m_X1_checkRange l hnt (G := G) (L := L) (f := f) (p1) (0) (1000)) (va_cwS 3 hts gX1_setRates_X1_checkRange rfl rfl rfl (by decide +kernel) ⟨Nat.le_of_ble_eq_true rfl, Nat.le_of_ble_eq_true rfl⟩) (wt_pS hK hE hw hA) rfl rfl hl.1 rfl (lv_room (Nat.le_of_ble_eq_true rfl)) dX1_setRates_5 ⟨Nat.le_of_ble_eq_true rfl, Nat.le_of_ble_eq_true rfl⟩) hw hA htab hlocks (Nat.le_of_ble_eq_true rfl) (Nat.le_of_ble_eq_true rfl) (fun rw_2 Lw_2 fw_2 H locs hpost hw => ?_)
  obtain ⟨er_2, eL_2, ef_2, hrg_1⟩ := hpost
  subst er_2
  obtain rfl := eL_2.symm
  obtain rfl := ef_2.symm
  refine lv_iload_n hx hb dX1_setRates_8 rfl (lv_at hl 2 rfl) ?_
  refine lv_iconst (v := 0) hx hb dX1_setRates_9 (by decide) ?_
  refine lv_sipush (v := 1000) hx hb dX1_setRates_10 (by decide) ?_
  refine wt_call (fun E h => ⟨h.1, by simp [srC, hrg_1, h.2]⟩) (vx_runS (As := [.int p2, .int 0, .int 1000]) (rest := []) ⟨hx, hb, hml, hown, hts⟩ (m_X1_checkRange l hnt (G := G) (L := L) (f := f) (p2) (0) (1000)) (va_cwS 3 hts gX1_setRates_X1_checkRange rfl rfl rfl (by decide +kernel) ⟨Nat.le_of_ble_eq_true rfl, Nat.le_of_ble_eq_true rfl⟩) (wt_pS hK hE hw hA) rfl rfl hl.1 rfl (lv_room (Nat.le_of_ble_eq_true rfl)) dX1_setRates_13 ⟨Nat.le_of_ble_eq_true rfl, Nat.le_of_ble_eq_true rfl⟩) hw hA htab hlocks (Nat.le_of_ble_eq_true rfl) (Nat.le_of_ble_eq_true rfl) (fun rw_4 Lw_4 fw_4 H locs hpost hw => ?_)
  obtain ⟨er_4, eL_4, ef_4, hrg_3⟩ := hpost
  subst er_4
  obtain rfl := eL_4.symm
  obtain rfl := ef_4.symm
  refine lv_aload_n hx hb dX1_setRates_16 rfl (lv_at hl 0 rfl) ?_
  refine lv_iload_n hx hb dX1_setRates_17 rfl (lv_at hl 1 rfl) ?_
  refine wy_put (ci := 2) (v := .int p1) (ty := .int) (C := RX1) (T := TX1) (N := 5) hx hb hts hinX1 tyX1 tyX1_ok nmX1 hown hK hw hq.1 rfl 2 (by decide) (hts (.fieldLink RX1 20 "Wheelpay" "kilometreRate" "I") (by decide +kernel)) (fun _ h9 => h9) rfl (by decide +kernel) rfl rfl (Nat.le_of_ble_eq_true rfl) dX1_setRates_18 (fun H locs f_5 hs_6 hn_7 hw => ?_)
  have hc_8 : wy_c L f_5 ox (.inr (2, [.ref lo, .ref (ar 0), .int p1, .int mn, .int (nI wk)])) := hs_6
  have hq := hq.own (wk' := wk) hc_8 hn_7 hwk
  refine lv_aload_n hx hb dX1_setRates_21 rfl (lv_at hl 0 rfl) ?_
  refine lv_iload_n hx hb dX1_setRates_22 rfl (lv_at hl 2 rfl) ?_
  refine wy_put (ci := 2) (v := .int p2) (ty := .int) (C := RX1) (T := TX1) (N := 5) hx hb hts hinX1 tyX1 tyX1_ok nmX1 hown hK hw hq.1 rfl 3 (by decide) (hts (.fieldLink RX1 24 "Wheelpay" "minuteRate" "I") (by decide +kernel)) (fun _ h9 => h9) rfl (by decide +kernel) rfl rfl (Nat.le_of_ble_eq_true rfl) dX1_setRates_23 (fun H locs f_9 hs_10 hn_11 hw => ?_)
  have hc_12 : wy_c L f_9 ox (.inr (2, [.ref lo, .ref (ar 0), .int p1, .int p2, .int (nI wk)])) := hs_10
  have hq := hq.own (wk' := wk) hc_12 hn_11 hwk
  exact vx_ret (wy_vW hx hb hr hlocks dX1_setRates_26 hw (Nat.le_of_ble_eq_true rfl) (Nat.le_of_ble_eq_true rfl) ⟨by simp [srC, hrg_1, hrg_3], rfl, _, _, hq⟩)
set_option maxHeartbeats 4000000 in
set_option maxRecDepth 100000 in
theorem m_X1_closeWeek (l : Launch) (hnt : l.stackTraces = false) {G : wy_G} {L : List Nat} {f : Nat → va_E} {sz : Nat} {ox lo : Nat} {ra ar : Nat → Nat} {n : Nat} {km mn : Int32} {wk : Nat} {po : Nat → Int32} {rr : Nat → wr_V} (hq : wx_S G L f ox lo ra ar n km mn wk po rr) : vx_Met l yX1_closeWeek wsX1_closeWeek ({ frames := 8, cells := 1, slots := 6, locals := 180 } : Room) (va_Pc [.ref ox] (wt_P G L f sz)) (wy_Q G (wx_p G ox lo n km mn (wk + 1) (poW rr n po wk 5) (rr) (some (.int (totW rr n po wk 5))) (cwC rr n wk)) (wy_A L sz)) (wt_X G (pxS (cwC rr n wk)) L f (wy_A L sz)) 1 6 (wy_A L sz) := by
  refine vx_ofW (cc := cX1_closeWeek) (maxL := 4) (ret := (some .int)) (by decide) rfl ?_
  intro p e s m args below meth c s₁ B hml htab hv
  obtain ⟨rfl, hv, hE⟩ := hv
  obtain ⟨hw, hK, hA⟩ := wy_start hv
  have hsz := hv.1
  subst hsz
  have hx := B.exec
  have hb := B.bytes
  have hr := B.returns
  have hts := atoms_spec (ws := wsX1_closeWeek) B.pre
  have hown : s.vm.findClass RX1 = some m.cls := findClass_of_methodNamed B.named
  have hlocks := B.notSynchronized
  have hinX1 : ∀ w ∈ wsX10, w ∈ wsX1_closeWeek := by decide +kernel
  obtain ⟨md, he, cap, gg, hL1, -⟩ := id hq.2.1
  have hn : n ≤ 40 := hq.2.2.2.2.1
  have hwk : wk ≤ 20 := hq.2.2.2.2.2.1
  have hl := lv_entry ([.ref ox]) (n := 4) (Nat.le_of_ble_eq_true rfl)
  rw [lg_entry_eq]
  generalize (lg_sl ([.ref ox]) ++ List.replicate (4 - (lg_sl ([.ref ox])).length) Slot.unset).toArray = ls at hl ⊢
  have hl : lv_has ls 4 [(0, .ref ox)] := hl
  refine lv_aload_n hx hb dX1_closeWeek_0 rfl (lv_at hl 0 rfl) ?_
  refine wy_get (ci := 2) (v := .int (nI wk)) (C := RX1) (T := TX1) (N := 5) hx hb hts hinX1 hown hK hw.1 hq.1 rfl 4 (by decide) (hts (.fieldLink RX1 27 "Wheelpay" "presentWeek" "I") (by decide +kernel)) (fun _ h9 => h9) rfl dX1_closeWeek_1 ?_
  refine lv_bipush (v := 20) hx hb dX1_closeWeek_4 (by decide) ?_
  refine lv_icmp_lt (tgt := 19) hx hb dX1_closeWeek_6 (by decide) (fun c_1 => ?_) (fun c_1 => ?_)
  · have nc_1 : wk < 20 := (wy_lt rfl (rfl : (20 : Int32) = nI 20) (by omega) (by decide)).mp c_1
    have hwkn : ¬ wk = 20 := by omega
    refine lv_aload_n hx hb dX1_closeWeek_19 rfl (lv_at hl 0 rfl) ?_
    refine vp_callSi (W.runV (As := []) (rest := []) ⟨hx, hb, hml, hown, hts⟩ (m_X1_isAnyUnderWay l hq) (cwV 0 hts gX1_closeWeek_X1_isAnyUnderWay rfl rfl rfl (by decide +kernel) ⟨Nat.le_of_ble_eq_true rfl, Nat.le_of_ble_eq_true rfl⟩) (wy_pVR hK hw.1 hq.1 rfl) rfl rfl hl.1 rfl (lv_room (Nat.le_of_ble_eq_true rfl)) dX1_closeWeek_20 ⟨Nat.le_of_ble_eq_true rfl, Nat.le_of_ble_eq_true rfl⟩) (fun r_2 er_2 => ?_)
    refine lv_if_eq (tgt := 36) hx hb dX1_closeWeek_23 (by decide) (fun c_3 => ?_) (fun c_3 => ?_)
    · have bc_3 : (undS rr n) = false := bI_0 (er_2.symm.trans c_3)
      refine lv_aload_n hx hb dX1_closeWeek_36 rfl (lv_at hl 0 rfl) ?_
      refine lv_dup hx hb dX1_closeWeek_37 rfl ?_
      refine wy_get (ci := 2) (v := .int (nI wk)) (C := RX1) (T := TX1) (N := 5) hx hb hts hinX1 hown hK hw.1 hq.1 rfl 4 (by decide) (hts (.fieldLink RX1 27 "Wheelpay" "presentWeek" "I") (by decide +kernel)) (fun _ h9 => h9) rfl dX1_closeWeek_38 ?_
      refine lv_iconst (v := 1) hx hb dX1_closeWeek_41 (by decide) ?_
      refine lv_iadd hx hb dX1_closeWeek_42 ?_
      refine lv_topi (fun x_4 ex_4 => ?_)
      have nx_4 : x_4 = nI (wk + 1) := ex_4.trans ((congr (congrArg (fun u v : Int32 => u + v) rfl) (rfl : (1 : Int32) = nI 1)).trans (nI_add _ _))
      obtain rfl : x_4 = nI (wk + 1) := nx_4
      refine wy_put (ci := 2) (v := .int (nI (wk + 1))) (ty := .int) (C := RX1) (T := TX1) (N := 5) hx hb hts hinX1 tyX1 tyX1_ok nmX1 hown hK hw hq.1 rfl 4 (by decide) (hts (.fieldLink RX1 27 "Wheelpay" "presentWeek" "I") (by decide +kernel)) (fun _ h9 => h9) rfl (by decide +kernel) rfl rfl (Nat.le_of_ble_eq_true rfl) dX1_closeWeek_43 (fun H locs f_5 hs_6 hn_7 hw => ?_)
      have hc_8 : wy_c L f_5 ox (.inr (2, [.ref lo, .ref (ar 0), .int km, .int mn, .int (nI (wk + 1))])) := hs_6
      have hq := hq.own (wk' := wk + 1) hc_8 hn_7 (by omega)
      refine lv_iconst (v := 0) hx hb dX1_closeWeek_46 (by decide) ?_
      refine lv_istore_n (lv' := [(1, .int 0), (0, .ref ox)]) hx hb dX1_closeWeek_47 rfl hl (by decide) rfl (fun ls hl => ?_)
      refine lv_iconst (v := 0) hx hb dX1_closeWeek_48 (by decide) ?_
      refine lv_istore_n (lv' := [(2, .int 0), (1, .int 0), (0, .ref ox)]) hx hb dX1_closeWeek_49 rfl hl (by decide) rfl (fun ls hl => ?_)
      have KK : ∀ (d i : Nat), i + d = 5 → ∀ (xi_i : Int32), xi_i = nI (i) → ∀ (a_s : Int32), a_s = totW rr n po wk i → ∀ (H : Heap) (locs : List Loc) (fc : Nat → va_E), wy_H G L fc (wy_A L s.heap.size) s.heap H locs → wx_S G L fc ox lo ra ar n km mn (wk + 1) (poW rr n po wk i) rr → ∀ ls : Array Slot, lv_has ls 4 [(2, .int xi_i), (1, .int a_s), (0, .ref ox)] → W p l e (headSpec wsX1_closeWeek ({ frames := 8, cells := 1, slots := 6, locals := 180 } : Room)).room s m ([.ref ox] : List Value).toArray below meth c H locs 0 0 (vx_MQ below (wy_Q G (wx_p G ox lo n km mn (wk + 1) (poW rr n po wk 5) (rr) (some (.int (totW rr n po wk 5))) (cwC rr n wk)) (wy_A L s.heap.size)) (wt_X G (pxS (cwC rr n wk)) L f (wy_A L s.heap.size)) ([.ref ox] : List Value).toArray s 1 6 (wy_A L s.heap.size)) (F0 m 50 ls []) := by
        intro d
        induction d with
        | zero =>
          intro i hd_i xi_i ei_i a_s ha_s H locs fc hw hq ls hl
          refine lv_iload_n hx hb dX1_closeWeek_50 rfl (lv_at hl 0 rfl) ?_
          refine lv_iconst (v := 5) hx hb dX1_closeWeek_51 (by decide) ?_
          refine lv_icmp_ge (tgt := 85) hx hb dX1_closeWeek_52 (by decide) (fun c_9 => ?_) (fun c_9 => ?_)
          · have nc_9 : 5 ≤ i := (wy_ge ei_i (rfl : (5 : Int32) = nI 5) (by omega) (by decide)).mp c_9
            obtain rfl : 5 = i := by omega
            refine lv_iload_n hx hb dX1_closeWeek_85 rfl (lv_at hl 1 rfl) ?_
            exact vx_ret (wy_iW hx hb hr hlocks dX1_closeWeek_86 hw (Nat.le_of_ble_eq_true rfl) (Nat.le_of_ble_eq_true rfl) ⟨by simp [cwC, bc_3, hwkn], by rw [ha_s], _, _, hq⟩)
          · have nc_9 : ¬ (5 ≤ i) := fun z => c_9 ((wy_ge ei_i (rfl : (5 : Int32) = nI 5) (by omega) (by decide)).mpr z)
            exact absurd nc_9 (by omega)
        | succ d ih_d =>
          intro i hd_i xi_i ei_i a_s ha_s H locs fc hw hq ls hl
          refine lv_iload_n hx hb dX1_closeWeek_50 rfl (lv_at hl 0 rfl) ?_
          refine lv_iconst (v := 5) hx hb dX1_closeWeek_51 (by decide) ?_
          refine lv_icmp_ge (tgt := 85) hx hb dX1_closeWeek_52 (by decide) (fun c_10 => ?_) (fun c_10 => ?_)
          · have nc_10 : 5 ≤ i := (wy_ge ei_i (rfl : (5 : Int32) = nI 5) (by omega) (by decide)).mp c_10
            exact absurd nc_10 (by omega)
          · have nc_10 : ¬ (5 ≤ i) := fun z => c_10 ((wy_ge ei_i (rfl : (5 : Int32) = nI 5) (by omega) (by decide)).mpr z)
            refine lv_aload_n hx hb dX1_closeWeek_55 rfl (lv_at hl 2 rfl) ?_
            refine lv_iload_n hx hb dX1_closeWeek_56 rfl (lv_at hl 0 rfl) ?_
            refine vp_callSi (W.runV (As := [.int xi_i]) (rest := []) ⟨hx, hb, hml, hown, hts⟩ (m_X1_dueTo l hq (xi_i) (i) (by omega) ei_i) (cwV 1 hts gX1_closeWeek_X1_dueTo rfl rfl rfl (by decide +kernel) ⟨Nat.le_of_ble_eq_true rfl, Nat.le_of_ble_eq_true rfl⟩) (wy_pVR hK hw.1 hq.1 rfl) rfl rfl hl.1 rfl (lv_room (Nat.le_of_ble_eq_true rfl)) dX1_closeWeek_57 ⟨Nat.le_of_ble_eq_true rfl, Nat.le_of_ble_eq_true rfl⟩) (fun r_11 er_11 => ?_)
            obtain rfl : r_11 = dueW rr n po wk i := er_11.trans (congrArg (fun z => payB rr n (nI i) (wk + 1) - z) (poW_i rr n po wk i))
            refine lv_istore_n (lv' := [(3, .int (dueW rr n po wk i)), (2, .int xi_i), (1, .int a_s), (0, .ref ox)]) hx hb dX1_closeWeek_60 rfl hl (by decide) rfl (fun ls hl => ?_)
            refine lv_iload_n hx hb dX1_closeWeek_61 rfl (lv_at hl 0 rfl) ?_
            refine lv_if_le (tgt := 79) hx hb dX1_closeWeek_62 (by decide) (fun c_12 => ?_) (fun c_12 => ?_)
            · have hng : ¬ 0 < dueW rr n po wk i := Int32.not_lt.mpr c_12
              have hq : wx_S G L fc ox lo ra ar n km mn (wk + 1) (poW rr n po wk (i + 1)) rr := by rw [poW_s rr n po wk i hng]; exact hq
              obtain ⟨x_13, ex_13⟩ : ∃ y : Int32, y = xi_i + 1 := ⟨_, rfl⟩
              have nx_13 : x_13 = nI (i + 1) := by rw [ex_13, ei_i, nI_1]
              refine lv_iinc (v := x_13) (lv' := [(2, .int x_13), (3, .int (dueW rr n po wk i)), (1, .int a_s), (0, .ref ox)]) hx hb dX1_closeWeek_79 hl (k := 1) rfl (by rw [ex_13]; rfl) (by decide) rfl (fun ls hl => ?_)
              refine lv_goto (tgt := 50) hx hb dX1_closeWeek_82 (by decide) ?_
              exact ih_d (i + 1) (by omega) _ nx_13 _ (by rw [ha_s]; show _ = totW rr n po wk i + (if 0 < dueW rr n po wk i then dueW rr n po wk i else 0); rw [if_neg hng, Int32.add_zero]) _ _ _ hw hq ls (lv_sub hl [0, 2, 3] rfl)
            · have hps : 0 < dueW rr n po wk i := Int32.not_le.mp c_12
              refine lv_aload_n hx hb dX1_closeWeek_65 rfl (lv_at hl 3 rfl) ?_
              refine wy_get (ci := 2) (v := .ref (ar 0)) (C := RX1) (T := TX1) (N := 5) hx hb hts hinX1 hown hK hw.1 hq.1 rfl 1 (by decide) (hts (.fieldLink RX1 16 "Wheelpay" "paidOut" "[I") (by decide +kernel)) (fun _ h9 => h9) rfl dX1_closeWeek_66 ?_
              refine lv_iload_n hx hb dX1_closeWeek_69 rfl (lv_at hl 1 rfl) ?_
              refine lv_dup2_11 hx hb dX1_closeWeek_70 rfl rfl ?_
              refine wy_iald hx hb hK hw.1 hq.2.2.1 (i) ei_i (by omega) (by omega) dX1_closeWeek_71 ?_
              refine lv_iload_n hx hb dX1_closeWeek_72 rfl (lv_at hl 0 rfl) ?_
              refine lv_iadd hx hb dX1_closeWeek_73 ?_
              refine lv_topi (fun x_14 ex_14 => ?_)
              have hz : x_14 = po i + (if 0 < dueW rr n po wk i then dueW rr n po wk i else 0) := by rw [if_pos hps, ex_14, poW_i]
              refine wy_iast hx hb hK hw hq.2.2.1 (i) ei_i (by omega) (by omega) dX1_closeWeek_74 (fun H locs f_15 hs_16 hn_17 hw => ?_)
              rw [poW_u rr n po wk i hz] at hs_16
              have hq := hq.paid hs_16 hn_17
              refine lv_iload_n hx hb dX1_closeWeek_75 rfl (lv_at hl 2 rfl) ?_
              refine lv_iload_n hx hb dX1_closeWeek_76 rfl (lv_at hl 0 rfl) ?_
              refine lv_iadd hx hb dX1_closeWeek_77 ?_
              refine lv_topi (fun x_18 ex_18 => ?_)
              refine lv_istore_n (lv' := [(1, .int x_18), (3, .int (dueW rr n po wk i)), (2, .int xi_i), (0, .ref ox)]) hx hb dX1_closeWeek_78 rfl hl (by decide) rfl (fun ls hl => ?_)
              obtain ⟨x_19, ex_19⟩ : ∃ y : Int32, y = xi_i + 1 := ⟨_, rfl⟩
              have nx_19 : x_19 = nI (i + 1) := by rw [ex_19, ei_i, nI_1]
              refine lv_iinc (v := x_19) (lv' := [(2, .int x_19), (1, .int x_18), (3, .int (dueW rr n po wk i)), (0, .ref ox)]) hx hb dX1_closeWeek_79 hl (k := 2) rfl (by rw [ex_19]; rfl) (by decide) rfl (fun ls hl => ?_)
              refine lv_goto (tgt := 50) hx hb dX1_closeWeek_82 (by decide) ?_
              exact ih_d (i + 1) (by omega) _ nx_19 _ (by rw [ex_18, ha_s]; show _ = totW rr n po wk i + (if 0 < dueW rr n po wk i then dueW rr n po wk i else 0); rw [if_pos hps]) _ _ _ hw hq ls (lv_sub hl [0, 1, 3] rfl)
      exact KK (5) 0 (by omega) _ rfl _ rfl _ _ _ hw (by rw [poW_0]; exact hq) ls (lv_sub hl [0, 1, 2] rfl)
    · have bc_3 : (undS rr n) = true := bI_1 (fun z => c_3 (er_2.trans z))
      exact wt_throw (is := 171) (text := "a ride is under way") wt_gdS wt_nbS (by decide) (by decide +kernel) hx hb hnt hown (by decide) (hts (.classLink RX1 42 "java/lang/IllegalStateException") (by decide +kernel)) (hts (.initialized "java/lang/IllegalStateException") (by decide +kernel)) (fun w h => hts w ((by decide +kernel : ∀ w ∈ (vx_atS RX1 46 "java/lang/IllegalStateException" wt_nm).filter goodWord, w ∈ wsX1_closeWeek) w h)) hE hw (by rw [hml]; exact hl.1) dX1_closeWeek_26 dX1_closeWeek_29 dX1_closeWeek_30 dX1_closeWeek_32 dX1_closeWeek_35 htab (Nat.le_of_ble_eq_true rfl) (Nat.le_of_ble_eq_true rfl) (Nat.le_of_ble_eq_true rfl) (Nat.le_of_ble_eq_true rfl) hlocks (Nat.le_of_ble_eq_true rfl) (Nat.le_of_ble_eq_true rfl) (⟨rfl, by simp [cwC, bc_3, hwkn]⟩)
  · have nc_1 : ¬ (wk < 20) := fun z => c_1 ((wy_lt rfl (rfl : (20 : Int32) = nI 20) (by omega) (by decide)).mpr z)
    have hwkn : wk = 20 := by omega
    exact wt_throw (is := 166) (text := "20 weeks have been closed") wt_gdS wt_nbS (by decide) (by decide +kernel) hx hb hnt hown (by decide) (hts (.classLink RX1 42 "java/lang/IllegalStateException") (by decide +kernel)) (hts (.initialized "java/lang/IllegalStateException") (by decide +kernel)) (fun w h => hts w ((by decide +kernel : ∀ w ∈ (vx_atS RX1 46 "java/lang/IllegalStateException" wt_nm).filter goodWord, w ∈ wsX1_closeWeek) w h)) hE hw (by rw [hml]; exact hl.1) dX1_closeWeek_9 dX1_closeWeek_12 dX1_closeWeek_13 dX1_closeWeek_15 dX1_closeWeek_18 htab (Nat.le_of_ble_eq_true rfl) (Nat.le_of_ble_eq_true rfl) (Nat.le_of_ble_eq_true rfl) (Nat.le_of_ble_eq_true rfl) hlocks (Nat.le_of_ble_eq_true rfl) (Nat.le_of_ble_eq_true rfl) (⟨rfl, by simp [cwC, hwkn]⟩)
set_option maxHeartbeats 4000000 in
set_option maxRecDepth 100000 in
theorem m_X1_averageCharge (l : Launch) (hnt : l.stackTraces = false) {G : wy_G} {L : List Nat} {f : Nat → va_E} {sz : Nat} {ox lo : Nat} {ra ar : Nat → Nat} {n : Nat} {km mn : Int32} {wk : Nat} {po : Nat → Int32} {rr : Nat → wr_V} (hq : wx_S G L f ox lo ra ar n km mn wk po rr) (p1 : Int32) : vx_Met l yX1_averageCharge wsX1_averageCharge ({ frames := 7, cells := 2, slots := 12, locals := 102 } : Room) (va_Pc [.ref ox, .int p1] (wt_P G L f sz)) (wy_Q G (wx_p G ox lo n km mn wk po (rr) (some (.float (mean (avsS rr n (ix p1)) (avcS rr n (ix p1))))) (avC rr n p1)) (wy_A L sz)) (wt_X G (px2 (avC rr n p1)) L f (wy_A L sz)) 2 12 (wy_A L sz) := by
  refine vx_ofW (cc := cX1_averageCharge) (maxL := 6) (ret := (some .float)) (by decide) rfl ?_
  intro p e s m args below meth c s₁ B hml htab hv
  obtain ⟨rfl, hv, hE⟩ := hv
  obtain ⟨hw, hK, hA⟩ := wy_start hv
  have hsz := hv.1
  subst hsz
  have hx := B.exec
  have hb := B.bytes
  have hr := B.returns
  have hts := atoms_spec (ws := wsX1_averageCharge) B.pre
  have hown : s.vm.findClass RX1 = some m.cls := findClass_of_methodNamed B.named
  have hlocks := B.notSynchronized
  have hinX1 : ∀ w ∈ wsX10, w ∈ wsX1_averageCharge := by decide +kernel
  obtain ⟨md, he, cap, gg, hL1, -⟩ := id hq.2.1
  have hn : n ≤ 40 := hq.2.2.2.2.1
  have hwk : wk ≤ 20 := hq.2.2.2.2.2.1
  have hl := lv_entry ([.ref ox, .int p1]) (n := 6) (Nat.le_of_ble_eq_true rfl)
  rw [lg_entry_eq]
  generalize (lg_sl ([.ref ox, .int p1]) ++ List.replicate (6 - (lg_sl ([.ref ox, .int p1])).length) Slot.unset).toArray = ls at hl ⊢
  have hl : lv_has ls 6 [(0, .ref ox), (1, .int p1)] := hl
  refine lv_iload_n hx hb dX1_averageCharge_0 rfl (lv_at hl 1 rfl) ?_
  refine wt_call (fun E h => Or.inl ⟨h.1, by simp [avC, h.2]⟩) (vx_runS (As := [.int p1]) (rest := []) ⟨hx, hb, hml, hown, hts⟩ (m_X1_checkRider l hnt (G := G) (L := L) (f := f) (p1)) (va_cwS 1 hts gX1_averageCharge_X1_checkRider rfl rfl rfl (by decide +kernel) ⟨Nat.le_of_ble_eq_true rfl, Nat.le_of_ble_eq_true rfl⟩) (wt_pS hK hE hw hA) rfl rfl hl.1 rfl (lv_room (Nat.le_of_ble_eq_true rfl)) dX1_averageCharge_1 ⟨Nat.le_of_ble_eq_true rfl, Nat.le_of_ble_eq_true rfl⟩) hw hA htab hlocks (Nat.le_of_ble_eq_true rfl) (Nat.le_of_ble_eq_true rfl) (fun rw_1 Lw_1 fw_1 H locs hpost hw => ?_)
  obtain ⟨er_1, eL_1, ef_1, hok2⟩ := hpost
  subst er_1
  obtain rfl := eL_1.symm
  obtain rfl := ef_1.symm
  obtain ⟨hr10, e1⟩ := okN_ix hok2 (by omega)
  refine lv_iconst (v := 0) hx hb dX1_averageCharge_4 (by decide) ?_
  refine lv_istore_n (lv' := [(2, .int 0), (0, .ref ox), (1, .int p1)]) hx hb dX1_averageCharge_5 rfl hl (by decide) rfl (fun ls hl => ?_)
  refine lv_iconst (v := 0) hx hb dX1_averageCharge_6 (by decide) ?_
  refine lv_istore_n (lv' := [(3, .int 0), (2, .int 0), (0, .ref ox), (1, .int p1)]) hx hb dX1_averageCharge_7 rfl hl (by decide) rfl (fun ls hl => ?_)
  refine lv_iconst (v := 0) hx hb dX1_averageCharge_8 (by decide) ?_
  refine lv_istore (lv' := [(4, .int 0), (3, .int 0), (2, .int 0), (0, .ref ox), (1, .int p1)]) hx hb dX1_averageCharge_9 hl (by decide) rfl (fun ls hl => ?_)
  have KK : ∀ (d i : Nat), i + d = n → ∀ (xi_i : Int32), xi_i = nI (i) → ∀ (a_s : Int32), a_s = bx_sum (fun k => if rfi (rr k) && decide (0 < rch (rr k) (ix p1)) then rch (rr k) (ix p1) else 0) i → ∀ (c_s : Int32), c_s = nI (cb (fun k => rfi (rr k) && decide (0 < rch (rr k) (ix p1))) i) → ∀ (H : Heap) (locs : List Loc) (fc : Nat → va_E), wy_H G L fc (wy_A L s.heap.size) s.heap H locs → f = fc → ∀ ls : Array Slot, lv_has ls 6 [(4, .int xi_i), (3, .int c_s), (2, .int a_s), (0, .ref ox), (1, .int p1)] → W p l e (headSpec wsX1_averageCharge ({ frames := 7, cells := 2, slots := 12, locals := 102 } : Room)).room s m ([.ref ox, .int p1] : List Value).toArray below meth c H locs 1 6 (vx_MQ below (wy_Q G (wx_p G ox lo n km mn wk po (rr) (some (.float (mean (avsS rr n (ix p1)) (avcS rr n (ix p1))))) (avC rr n p1)) (wy_A L s.heap.size)) (wt_X G (px2 (avC rr n p1)) L f (wy_A L s.heap.size)) ([.ref ox, .int p1] : List Value).toArray s 2 12 (wy_A L s.heap.size)) (F0 m 11 ls []) := by
    intro d
    induction d with
    | zero =>
      intro i hd_i xi_i ei_i a_s ha_s c_s hc_s H locs fc hw hfc ls hl
      subst hfc
      refine lv_iload hx hb dX1_averageCharge_11 (lv_at hl 0 rfl) ?_
      refine lv_aload_n hx hb dX1_averageCharge_13 rfl (lv_at hl 3 rfl) ?_
      refine wy_get (ci := 2) (v := .ref lo) (C := RX1) (T := TX1) (N := 5) hx hb hts hinX1 hown hK hw.1 hq.1 rfl 0 (by decide) (hts (.fieldLink RX1 10 "Wheelpay" "rides" "Ljava/util/ArrayList;") (by decide +kernel)) (fun _ h9 => h9) rfl dX1_averageCharge_14 ?_
      refine vp_callSi (W.runV (As := []) (rest := [.int xi_i]) ⟨hx, hb, hml, hown, hts⟩ (m_Jx4a65c_size_8abf5 l hq.2.1) (cwV 0 hts gX1_averageCharge_Jx4a65c_size_8abf5 rfl rfl rfl (by decide +kernel) ⟨Nat.le_of_ble_eq_true rfl, Nat.le_of_ble_eq_true rfl⟩) (wy_pVR hK hw.1 hL1 rfl) rfl rfl hl.1 rfl (lv_room (Nat.le_of_ble_eq_true rfl)) dX1_averageCharge_17 ⟨Nat.le_of_ble_eq_true rfl, Nat.le_of_ble_eq_true rfl⟩) (fun r_2 er_2 => ?_)
      refine lv_icmp_ge (tgt := 72) hx hb dX1_averageCharge_20 (by decide) (fun c_3 => ?_) (fun c_3 => ?_)
      · have nc_3 : n ≤ i := (wy_ge ei_i er_2 (by omega) (by omega)).mp c_3
        obtain rfl : n = i := by omega
        refine lv_iload_n hx hb dX1_averageCharge_72 rfl (lv_at hl 1 rfl) ?_
        refine lv_if_ne (tgt := 86) hx hb dX1_averageCharge_73 (by decide) (fun c_4 => ?_) (fun c_4 => ?_)
        · have hav : ¬ avcS rr n (ix p1) = 0 := fun z => c_4 ((wy_eq hc_s (rfl : (0 : Int32) = nI 0) (Nat.lt_of_le_of_lt (cb_le _ _) (by omega)) (by decide)).mpr z)
          refine lv_iload_n hx hb dX1_averageCharge_86 rfl (lv_at hl 2 rfl) ?_
          refine lv_i2f hx hb dX1_averageCharge_87 ?_
          refine lv_iload_n hx hb dX1_averageCharge_88 rfl (lv_at hl 1 rfl) ?_
          refine lv_i2f hx hb dX1_averageCharge_89 ?_
          rw [ha_s, hc_s]
          refine lv_fdiv hx hb dX1_averageCharge_90 (mean_n (avsS rr n (ix p1)) hav (Nat.le_trans (cb_le _ _) hn)) ?_
          exact vx_ret (wy_fW hx hb hr hlocks dX1_averageCharge_91 hw (Nat.le_of_ble_eq_true rfl) (Nat.le_of_ble_eq_true rfl) ⟨by simp [avC, hok2, hav], rfl, _, _, hq⟩)
        · have hav : avcS rr n (ix p1) = 0 := (wy_eq hc_s (rfl : (0 : Int32) = nI 0) (Nat.lt_of_le_of_lt (cb_le _ _) (by omega)) (by decide)).mp c_4
          exact wt_throw (is := 198) (text := "the rider was charged for no finished ride") wt_gdS wt_nbS (by decide) (by decide +kernel) hx hb hnt hown (by decide) (hts (.classLink RX1 42 "java/lang/IllegalStateException") (by decide +kernel)) (hts (.initialized "java/lang/IllegalStateException") (by decide +kernel)) (fun w h => hts w ((by decide +kernel : ∀ w ∈ (vx_atS RX1 46 "java/lang/IllegalStateException" wt_nm).filter goodWord, w ∈ wsX1_averageCharge) w h)) hE hw (by rw [hml]; exact hl.1) dX1_averageCharge_76 dX1_averageCharge_79 dX1_averageCharge_80 dX1_averageCharge_82 dX1_averageCharge_85 htab (Nat.le_of_ble_eq_true rfl) (Nat.le_of_ble_eq_true rfl) (Nat.le_of_ble_eq_true rfl) (Nat.le_of_ble_eq_true rfl) hlocks (Nat.le_of_ble_eq_true rfl) (Nat.le_of_ble_eq_true rfl) (Or.inr ⟨rfl, by simp [avC, hok2, hav]⟩)
      · have nc_3 : ¬ (n ≤ i) := fun z => c_3 ((wy_ge ei_i er_2 (by omega) (by omega)).mpr z)
        exact absurd nc_3 (by omega)
    | succ d ih_d =>
      intro i hd_i xi_i ei_i a_s ha_s c_s hc_s H locs fc hw hfc ls hl
      subst hfc
      refine lv_iload hx hb dX1_averageCharge_11 (lv_at hl 0 rfl) ?_
      refine lv_aload_n hx hb dX1_averageCharge_13 rfl (lv_at hl 3 rfl) ?_
      refine wy_get (ci := 2) (v := .ref lo) (C := RX1) (T := TX1) (N := 5) hx hb hts hinX1 hown hK hw.1 hq.1 rfl 0 (by decide) (hts (.fieldLink RX1 10 "Wheelpay" "rides" "Ljava/util/ArrayList;") (by decide +kernel)) (fun _ h9 => h9) rfl dX1_averageCharge_14 ?_
      refine vp_callSi (W.runV (As := []) (rest := [.int xi_i]) ⟨hx, hb, hml, hown, hts⟩ (m_Jx4a65c_size_8abf5 l hq.2.1) (cwV 0 hts gX1_averageCharge_Jx4a65c_size_8abf5 rfl rfl rfl (by decide +kernel) ⟨Nat.le_of_ble_eq_true rfl, Nat.le_of_ble_eq_true rfl⟩) (wy_pVR hK hw.1 hL1 rfl) rfl rfl hl.1 rfl (lv_room (Nat.le_of_ble_eq_true rfl)) dX1_averageCharge_17 ⟨Nat.le_of_ble_eq_true rfl, Nat.le_of_ble_eq_true rfl⟩) (fun r_5 er_5 => ?_)
      refine lv_icmp_ge (tgt := 72) hx hb dX1_averageCharge_20 (by decide) (fun c_6 => ?_) (fun c_6 => ?_)
      · have nc_6 : n ≤ i := (wy_ge ei_i er_5 (by omega) (by omega)).mp c_6
        exact absurd nc_6 (by omega)
      · have nc_6 : ¬ (n ≤ i) := fun z => c_6 ((wy_ge ei_i er_5 (by omega) (by omega)).mpr z)
        refine lv_aload_n hx hb dX1_averageCharge_23 rfl (lv_at hl 3 rfl) ?_
        refine wy_get (ci := 2) (v := .ref lo) (C := RX1) (T := TX1) (N := 5) hx hb hts hinX1 hown hK hw.1 hq.1 rfl 0 (by decide) (hts (.fieldLink RX1 10 "Wheelpay" "rides" "Ljava/util/ArrayList;") (by decide +kernel)) (fun _ h9 => h9) rfl dX1_averageCharge_24 ?_
        refine lv_iload hx hb dX1_averageCharge_27 (lv_at hl 0 rfl) ?_
        refine va_csr (W.runV (As := [.int xi_i]) (rest := []) ⟨hx, hb, hml, hown, hts⟩ (m_Jx4a65c_get_915e3 l hq.2.1 (xi_i) (i) (by omega) ei_i) (cwV 1 hts gX1_averageCharge_Jx4a65c_get_915e3 rfl rfl rfl (by decide +kernel) ⟨Nat.le_of_ble_eq_true rfl, Nat.le_of_ble_eq_true rfl⟩) (wy_pVR hK hw.1 hL1 rfl) rfl rfl hl.1 rfl (lv_room (Nat.le_of_ble_eq_true rfl)) dX1_averageCharge_29 ⟨Nat.le_of_ble_eq_true rfl, Nat.le_of_ble_eq_true rfl⟩) (fun r_7 er_7 => ?_)
        subst er_7
        refine wy_cast (ci := 1) hx hb hown (hts (.classLink RX1 55 "Wheelpay$Ride") (by decide +kernel)) hK hw.1 (hq.2.2.2.1 (i) (by omega)).1 rfl dX1_averageCharge_32 ?_
        refine lv_astore (lv' := [(5, .ref (ra (i))), (4, .int xi_i), (3, .int c_s), (2, .int a_s), (0, .ref ox), (1, .int p1)]) hx hb dX1_averageCharge_35 hl (by decide) rfl (fun ls hl => ?_)
        refine lv_aload hx hb dX1_averageCharge_37 (lv_at hl 0 rfl) ?_
        refine vp_callSi (W.runV (As := []) (rest := []) ⟨hx, hb, hml, hown, hts⟩ (m_X0_isFinished l (hq.2.2.2.1 (i) (by omega))) (cwV 0 hts gX1_averageCharge_X0_isFinished rfl rfl rfl (by decide +kernel) ⟨Nat.le_of_ble_eq_true rfl, Nat.le_of_ble_eq_true rfl⟩) (wy_pVR hK hw.1 (hq.2.2.2.1 (i) (by omega)).1 rfl) rfl rfl hl.1 rfl (lv_room (Nat.le_of_ble_eq_true rfl)) dX1_averageCharge_39 ⟨Nat.le_of_ble_eq_true rfl, Nat.le_of_ble_eq_true rfl⟩) (fun r_8 er_8 => ?_)
        refine lv_if_eq (tgt := 66) hx hb dX1_averageCharge_42 (by decide) (fun c_9 => ?_) (fun c_9 => ?_)
        · have bc_9 : (rfi (rr (i))) = false := bI_0 (er_8.symm.trans c_9)
          obtain ⟨x_10, ex_10⟩ : ∃ y : Int32, y = xi_i + 1 := ⟨_, rfl⟩
          have nx_10 : x_10 = nI (i + 1) := by rw [ex_10, ei_i, nI_1]
          refine lv_iinc (v := x_10) (lv' := [(4, .int x_10), (5, .ref (ra (i))), (3, .int c_s), (2, .int a_s), (0, .ref ox), (1, .int p1)]) hx hb dX1_averageCharge_66 hl (k := 1) rfl (by rw [ex_10]; rfl) (by decide) rfl (fun ls hl => ?_)
          refine lv_goto (tgt := 11) hx hb dX1_averageCharge_69 (by decide) ?_
          exact ih_d (i + 1) (by omega) _ nx_10 _ (by simp [bx_sum, ha_s, er_5, er_8, ex_10, bc_9]) _ (by rw [show cb (fun k => rfi (rr k) && decide (0 < rch (rr k) (ix p1))) (i + 1) = cb (fun k => rfi (rr k) && decide (0 < rch (rr k) (ix p1))) i by simp [cb, bc_9]]; exact hc_s) _ _ _ hw rfl ls (lv_sub hl [0, 2, 3, 4, 5] rfl)
        · have bc_9 : (rfi (rr (i))) = true := bI_1 (fun z => c_9 (er_8.trans z))
          refine lv_aload hx hb dX1_averageCharge_45 (lv_at hl 0 rfl) ?_
          refine lv_iload_n hx hb dX1_averageCharge_47 rfl (lv_at hl 5 rfl) ?_
          refine vp_callSi (W.runV (As := [.int p1]) (rest := []) ⟨hx, hb, hml, hown, hts⟩ (m_X0_chargeOf l (hq.2.2.2.1 (i) (by omega)) (p1) ((ix p1)) (by omega) e1) (cwV 1 hts gX1_averageCharge_X0_chargeOf rfl rfl rfl (by decide +kernel) ⟨Nat.le_of_ble_eq_true rfl, Nat.le_of_ble_eq_true rfl⟩) (wy_pVR hK hw.1 (hq.2.2.2.1 (i) (by omega)).1 rfl) rfl rfl hl.1 rfl (lv_room (Nat.le_of_ble_eq_true rfl)) dX1_averageCharge_48 ⟨Nat.le_of_ble_eq_true rfl, Nat.le_of_ble_eq_true rfl⟩) (fun r_11 er_11 => ?_)
          refine lv_if_le (tgt := 66) hx hb dX1_averageCharge_51 (by decide) (fun c_12 => ?_) (fun c_12 => ?_)
          · have hX : decide (0 < rch (rr i) (ix p1)) = false := by rw [← er_11]; exact decide_eq_false (Int32.not_lt.mpr c_12)
            obtain ⟨x_13, ex_13⟩ : ∃ y : Int32, y = xi_i + 1 := ⟨_, rfl⟩
            have nx_13 : x_13 = nI (i + 1) := by rw [ex_13, ei_i, nI_1]
            refine lv_iinc (v := x_13) (lv' := [(4, .int x_13), (5, .ref (ra (i))), (3, .int c_s), (2, .int a_s), (0, .ref ox), (1, .int p1)]) hx hb dX1_averageCharge_66 hl (k := 1) rfl (by rw [ex_13]; rfl) (by decide) rfl (fun ls hl => ?_)
            refine lv_goto (tgt := 11) hx hb dX1_averageCharge_69 (by decide) ?_
            exact ih_d (i + 1) (by omega) _ nx_13 _ (by simp [bx_sum, ha_s, er_5, er_8, er_11, ex_13, bc_9, hX]) _ (by rw [show cb (fun k => rfi (rr k) && decide (0 < rch (rr k) (ix p1))) (i + 1) = cb (fun k => rfi (rr k) && decide (0 < rch (rr k) (ix p1))) i by simp [cb, bc_9, hX]]; exact hc_s) _ _ _ hw rfl ls (lv_sub hl [0, 2, 3, 4, 5] rfl)
          · have hX : decide (0 < rch (rr i) (ix p1)) = true := by rw [← er_11]; exact decide_eq_true (Int32.not_le.mp c_12)
            refine lv_iload_n hx hb dX1_averageCharge_54 rfl (lv_at hl 3 rfl) ?_
            refine lv_aload hx hb dX1_averageCharge_55 (lv_at hl 0 rfl) ?_
            refine lv_iload_n hx hb dX1_averageCharge_57 rfl (lv_at hl 5 rfl) ?_
            refine vp_callSi (W.runV (As := [.int p1]) (rest := [.int a_s]) ⟨hx, hb, hml, hown, hts⟩ (m_X0_chargeOf l (hq.2.2.2.1 (i) (by omega)) (p1) ((ix p1)) (by omega) e1) (cwV 1 hts gX1_averageCharge_X0_chargeOf rfl rfl rfl (by decide +kernel) ⟨Nat.le_of_ble_eq_true rfl, Nat.le_of_ble_eq_true rfl⟩) (wy_pVR hK hw.1 (hq.2.2.2.1 (i) (by omega)).1 rfl) rfl rfl hl.1 rfl (lv_room (Nat.le_of_ble_eq_true rfl)) dX1_averageCharge_58 ⟨Nat.le_of_ble_eq_true rfl, Nat.le_of_ble_eq_true rfl⟩) (fun r_14 er_14 => ?_)
            refine lv_iadd hx hb dX1_averageCharge_61 ?_
            refine lv_topi (fun x_15 ex_15 => ?_)
            refine lv_istore_n (lv' := [(2, .int x_15), (5, .ref (ra (i))), (4, .int xi_i), (3, .int c_s), (0, .ref ox), (1, .int p1)]) hx hb dX1_averageCharge_62 rfl hl (by decide) rfl (fun ls hl => ?_)
            obtain ⟨x_16, ex_16⟩ : ∃ y : Int32, y = c_s + 1 := ⟨_, rfl⟩
            have nx_16 : x_16 = nI (cb (fun k => rfi (rr k) && decide (0 < rch (rr k) (ix p1))) i + 1) := by rw [ex_16, hc_s, nI_1]
            refine lv_iinc (v := x_16) (lv' := [(3, .int x_16), (2, .int x_15), (5, .ref (ra (i))), (4, .int xi_i), (0, .ref ox), (1, .int p1)]) hx hb dX1_averageCharge_63 hl (k := 3) rfl (by rw [ex_16]; rfl) (by decide) rfl (fun ls hl => ?_)
            obtain ⟨x_17, ex_17⟩ : ∃ y : Int32, y = xi_i + 1 := ⟨_, rfl⟩
            have nx_17 : x_17 = nI (i + 1) := by rw [ex_17, ei_i, nI_1]
            refine lv_iinc (v := x_17) (lv' := [(4, .int x_17), (3, .int x_16), (2, .int x_15), (5, .ref (ra (i))), (0, .ref ox), (1, .int p1)]) hx hb dX1_averageCharge_66 hl (k := 3) rfl (by rw [ex_17]; rfl) (by decide) rfl (fun ls hl => ?_)
            refine lv_goto (tgt := 11) hx hb dX1_averageCharge_69 (by decide) ?_
            exact ih_d (i + 1) (by omega) _ nx_17 _ (by simp [bx_sum, ha_s, er_5, er_8, er_11, er_14, ex_15, ex_16, ex_17, bc_9, hX]) _ (by rw [show cb (fun k => rfi (rr k) && decide (0 < rch (rr k) (ix p1))) (i + 1) = cb (fun k => rfi (rr k) && decide (0 < rch (rr k) (ix p1))) i + 1 by simp [cb, bc_9, hX]]; exact nx_16) _ _ _ hw rfl ls (lv_sub hl [0, 1, 2, 4, 5] rfl)
  exact KK (n) 0 (by omega) _ rfl _ rfl _ rfl _ _ _ hw rfl ls (lv_sub hl [0, 1, 2, 3, 4] rfl)
