set_option maxHeartbeats 4000000 in
set_option maxRecDepth 100000 in
theorem m_X2_closeWeek (l : Launch) {G : wy_G} {L : List Nat} {f : Nat → va_E} {sz : Nat} {om : Nat} {ma : Nat → Nat} {n : Nat} {km mn : Int32} {wk : Nat} {th : Int32} {po : Nat → Int32} {rr : Nat → wr_V} {g0 g1 g2 g3 g4 g5 g6 g7 g8 g9 : Nat → Int32} {t : Nat} (hq : wm_S G L f om ma n km mn wk th g0 g1 g2 g3 g4 g5 g6 g7 g8 g9) (hm : wm_r po rr g0 g1 g2 g3 g4 g5 g6 g7 g8 g9) (hi : ∀ k, k < 40 → wi t (rr k)) (ht1 : t + 1 ≤ 512) : Met l yX2_closeWeek wsX2_closeWeek ({ frames := 5, cells := 0, slots := 0, locals := 118 } : Room) (va_Pc [.ref om] (wy_W G L f sz)) (wy_Q G (wm_p G L om ma (if cwC rr n wk = 0 then n else n) (if cwC rr n wk = 0 then km else km) (if cwC rr n wk = 0 then mn else mn) (if cwC rr n wk = 0 then (wk + 1) else wk) (if cwC rr n wk = 0 then poW rr n po wk 5 else po) (if cwC rr n wk = 0 then rr else rr) (cwC rr n wk) (some (.int (if cwC rr n wk = 0 then totW rr n po wk 5 else 0)))) (wy_A L sz)) 0 0 (wy_A L sz) := by
  refine Met.ofW (cc := cX2_closeWeek) (maxL := 4) (ret := (some .int)) (by decide) rfl ?_
  intro p e s m args below meth c s₁ B hml hv
  obtain ⟨rfl, hv⟩ := hv
  obtain ⟨hw, hK, hA⟩ := wy_start hv
  have hsz := hv.1
  subst hsz
  have hx := B.exec
  have hb := B.bytes
  have hr := B.returns
  have hts := atoms_spec (ws := wsX2_closeWeek) B.pre
  have hown : s.vm.findClass RX2 = some m.cls := findClass_of_methodNamed B.named
  have hlocks := B.notSynchronized
  have hinX2 : ∀ w ∈ wsX20, w ∈ wsX2_closeWeek := by decide +kernel
  have hn : n ≤ 40 := hq.2.2.2.2.2.2.2.2.2.2.2.2.2.1
  have hwk : wk ≤ 20 := hq.2.2.2.2.2.2.2.2.2.2.2.2.2.2
  have hsN : ∀ v r, stN v r < 2 ^ 31 := fun v r => by unfold stN; split <;> (try split) <;> (try split) <;> decide
  have hdN : ∀ v r, dpN v r < 2 ^ 31 := fun v r => by unfold dpN; split <;> (try split) <;> (try split) <;> decide
  have hd1 := hq.2.2.2.2.2.2.2.2.2.2.2.1
  have hd2 := hq.2.2.2.2.2.2.2.2.2.2.2.2.1
  have ht : t ≤ 512 := by omega
  have hl := lv_entry ([.ref om]) (n := 4) (Nat.le_of_ble_eq_true rfl)
  rw [lg_entry_eq]
  generalize (lg_sl ([.ref om]) ++ List.replicate (4 - (lg_sl ([.ref om])).length) Slot.unset).toArray = ls at hl ⊢
  have hl : lv_has ls 4 [(0, .ref om)] := hl
  refine lv_aload_n hx hb dX2_closeWeek_0 rfl (lv_at hl 0 rfl) ?_
  refine lv_aload_n hx hb dX2_closeWeek_1 rfl (lv_at hl 0 rfl) ?_
  refine lv_iconst (v := (-1)) hx hb dX2_closeWeek_2 (by decide) ?_
  refine vp_callSi (W.runV (As := [.int (-1)]) (rest := [.ref om]) ⟨hx, hb, hml, hown, hts⟩ (m_X2_isUnderWay l hq hm hi ht ((-1))) (cwV 1 hts gX2_closeWeek_X2_isUnderWay rfl rfl rfl (by decide +kernel) ⟨Nat.le_of_ble_eq_true rfl, Nat.le_of_ble_eq_true rfl⟩) (wy_pVR hK hw.1 hq.1 rfl) rfl rfl hl.1 rfl (lv_room (Nat.le_of_ble_eq_true rfl)) dX2_closeWeek_3 ⟨Nat.le_of_ble_eq_true rfl, Nat.le_of_ble_eq_true rfl⟩) (fun r_1 er_1 => ?_)
  refine lv_if_ne (tgt := 18) hx hb dX2_closeWeek_6 (by decide) (fun c_2 => ?_) (fun c_2 => ?_)
  · have bc_2 : (anyB (muB rr (-1)) n) = true := bI_1 (fun z => c_2 (er_1.trans z))
    have hund : undS rr n = true := (by rw [← muB_und]; exact bc_2)
    refine lv_iconst (v := 1) hx hb dX2_closeWeek_18 (by decide) ?_
    refine lv_goto (tgt := 23) hx hb dX2_closeWeek_19 (by decide) ?_
    refine wy_call (va_runV (As := [.int 1]) (rest := []) ⟨hx, hb, hml, hown, hts⟩ (m_X2_fails l hq (1)) (cwV 1 hts gX2_closeWeek_X2_fails rfl rfl rfl (by decide +kernel) ⟨Nat.le_of_ble_eq_true rfl, Nat.le_of_ble_eq_true rfl⟩) (wy_pVW hK hw hq.1 rfl) rfl rfl hl.1 rfl (lv_room (Nat.le_of_ble_eq_true rfl)) dX2_closeWeek_23 ⟨Nat.le_of_ble_eq_true rfl, Nat.le_of_ble_eq_true rfl⟩) hw hA (fun rw_3 Lw_3 fw_3 H locs hpost hw => ?_)
    obtain ⟨er_3, eL_3, hq⟩ := hpost
    subst er_3
    obtain rfl := eL_3.symm
    rw [show bI (decide ((0 : Int32) < 1)) = 1 from rfl]
    refine lv_if_eq (tgt := 31) hx hb dX2_closeWeek_26 (by decide) (fun c_4 => ?_) (fun c_4 => ?_)
    · exact absurd c_4 (by decide)
    · have bc_4 : (true) = true := bI_1 (fun z => c_4 (rfl.trans z))
      refine lv_iconst (v := 0) hx hb dX2_closeWeek_29 (by decide) ?_
      exact wy_iW hx hb hr hlocks dX2_closeWeek_30 hw (Nat.le_of_ble_eq_true rfl) (Nat.le_of_ble_eq_true rfl) (wm_no (by simp [cwC, bc_2, bc_4, hund]) (by decide) hq hm)
  · have bc_2 : (anyB (muB rr (-1)) n) = false := bI_0 (er_1.symm.trans c_2)
    have hund : undS rr n = false := (by rw [← muB_und]; exact bc_2)
    refine lv_aload_n hx hb dX2_closeWeek_9 rfl (lv_at hl 0 rfl) ?_
    refine wy_get (ci := 3) (v := .int (nI wk)) (C := RX2) (T := TX2) (N := 15) hx hb hts hinX2 hown hK hw.1 hq.1 rfl 12 (by decide) (hts (.fieldLink RX2 71 "WheelpayModel" "week" "I") (by decide +kernel)) (fun _ h9 => h9) rfl dX2_closeWeek_10 ?_
    refine lv_bipush (v := 20) hx hb dX2_closeWeek_13 (by decide) ?_
    refine lv_icmp_ne (tgt := 22) hx hb dX2_closeWeek_15 (by decide) (fun c_5 => ?_) (fun c_5 => ?_)
    · have nc_5 : ¬ (wk = 20) := fun z => c_5 ((wy_eq rfl (rfl : (20 : Int32) = nI 20) (by first | omega | exact hsN _ _ | exact hdN _ _ | exact Nat.lt_of_le_of_lt (cb_le _ _) (by omega)) (by decide)).mpr z)
      refine lv_iconst (v := 0) hx hb dX2_closeWeek_22 (by decide) ?_
      refine wy_call (va_runV (As := [.int 0]) (rest := []) ⟨hx, hb, hml, hown, hts⟩ (m_X2_fails l hq (0)) (cwV 1 hts gX2_closeWeek_X2_fails rfl rfl rfl (by decide +kernel) ⟨Nat.le_of_ble_eq_true rfl, Nat.le_of_ble_eq_true rfl⟩) (wy_pVW hK hw hq.1 rfl) rfl rfl hl.1 rfl (lv_room (Nat.le_of_ble_eq_true rfl)) dX2_closeWeek_23 ⟨Nat.le_of_ble_eq_true rfl, Nat.le_of_ble_eq_true rfl⟩) hw hA (fun rw_6 Lw_6 fw_6 H locs hpost hw => ?_)
      obtain ⟨er_6, eL_6, hq⟩ := hpost
      subst er_6
      obtain rfl := eL_6.symm
      rw [show bI (decide ((0 : Int32) < 0)) = 0 from rfl]
      refine lv_if_eq (tgt := 31) hx hb dX2_closeWeek_26 (by decide) (fun c_7 => ?_) (fun c_7 => ?_)
      · have bc_7 : (false) = false := bI_0 (rfl.symm.trans c_7)
        refine lv_iconst (v := 0) hx hb dX2_closeWeek_31 (by decide) ?_
        refine lv_istore_n (lv' := [(1, .int 0), (0, .ref om)]) hx hb dX2_closeWeek_32 rfl hl (by decide) rfl (fun ls hl => ?_)
        refine lv_iconst (v := 0) hx hb dX2_closeWeek_33 (by decide) ?_
        refine lv_istore_n (lv' := [(2, .int 0), (1, .int 0), (0, .ref om)]) hx hb dX2_closeWeek_34 rfl hl (by decide) rfl (fun ls hl => ?_)
        have KK : ∀ (d i : Nat), i + d = 5 → ∀ (xi_i : Int32), xi_i = nI (i) → ∀ (a_s : Int32), a_s = totW rr n po wk i → ∀ (g9c : Nat → Int32), wm_r (poW rr n po wk i) rr g0 g1 g2 g3 g4 g5 g6 g7 g8 g9c → ∀ (H : Heap) (locs : List Loc) (fc : Nat → va_E), wy_H G L fc (wy_A L s.heap.size) s.heap H locs → wm_S G L fc om ma n km mn wk 0 g0 g1 g2 g3 g4 g5 g6 g7 g8 g9c → ∀ ls : Array Slot, lv_has ls 4 [(2, .int xi_i), (1, .int a_s), (0, .ref om)] → W p l e (headSpec wsX2_closeWeek ({ frames := 5, cells := 0, slots := 0, locals := 118 } : Room)).room s m ([.ref om] : List Value).toArray below meth c H locs 0 0 (MQ below (wy_Q G (wm_p G L om ma (if cwC rr n wk = 0 then n else n) (if cwC rr n wk = 0 then km else km) (if cwC rr n wk = 0 then mn else mn) (if cwC rr n wk = 0 then (wk + 1) else wk) (if cwC rr n wk = 0 then poW rr n po wk 5 else po) (if cwC rr n wk = 0 then rr else rr) (cwC rr n wk) (some (.int (if cwC rr n wk = 0 then totW rr n po wk 5 else 0)))) (wy_A L s.heap.size)) ([.ref om] : List Value).toArray s 0 0 (wy_A L s.heap.size)) (F0 m 35 ls []) := by
          intro d
          induction d with
          | zero =>
            intro i hd_i xi_i ei_i a_s ha_s g9c hmc H locs fc hw hq ls hl
            have hm := hmc
            refine lv_iload_n hx hb dX2_closeWeek_35 rfl (lv_at hl 0 rfl) ?_
            refine lv_iconst (v := 5) hx hb dX2_closeWeek_36 (by decide) ?_
            refine lv_icmp_ge (tgt := 88) hx hb dX2_closeWeek_37 (by decide) (fun c_8 => ?_) (fun c_8 => ?_)
            · have nc_8 : 5 ≤ i := (wy_ge ei_i (rfl : (5 : Int32) = nI 5) (by first | omega | exact hsN _ _ | exact hdN _ _ | exact Nat.lt_of_le_of_lt (cb_le _ _) (by omega)) (by decide)).mp c_8
              obtain rfl : 5 = i := by omega
              refine lv_aload_n hx hb dX2_closeWeek_88 rfl (lv_at hl 2 rfl) ?_
              refine lv_dup hx hb dX2_closeWeek_89 rfl ?_
              refine wy_get (ci := 3) (v := .int (nI wk)) (C := RX2) (T := TX2) (N := 15) hx hb hts hinX2 hown hK hw.1 hq.1 rfl 12 (by decide) (hts (.fieldLink RX2 71 "WheelpayModel" "week" "I") (by decide +kernel)) (fun _ h9 => h9) rfl dX2_closeWeek_90 ?_
              refine lv_iconst (v := 1) hx hb dX2_closeWeek_93 (by decide) ?_
              refine lv_iadd hx hb dX2_closeWeek_94 ?_
              refine lv_topi (fun x_9 ex_9 => ?_)
              have nx_9 : x_9 = nI (wk + 1) := ex_9.trans ((congr (congrArg (fun u v : Int32 => u + v) rfl) (rfl : (1 : Int32) = nI 1)).trans (nI_add _ _))
              obtain rfl : x_9 = nI (wk + 1) := nx_9
              refine wy_put (ci := 3) (v := .int (nI (wk + 1))) (ty := .int) (C := RX2) (T := TX2) (N := 15) hx hb hts hinX2 tyX2 tyX2_ok nmX2 hown hK hw hq.1 rfl 12 (by decide) (hts (.fieldLink RX2 71 "WheelpayModel" "week" "I") (by decide +kernel)) (fun _ h9 => h9) rfl (by decide +kernel) rfl rfl (Nat.le_of_ble_eq_true rfl) dX2_closeWeek_95 (fun H locs f_10 hs_11 hn_12 hw => ?_)
              have hc_13 := wy_c.ne2 hq.2.1 hn_12 (hd1 0 (by decide)).symm
              have hc_14 := wy_c.ne2 hq.2.2.1 hn_12 (hd1 1 (by decide)).symm
              have hc_15 := wy_c.ne2 hq.2.2.2.1 hn_12 (hd1 2 (by decide)).symm
              have hc_16 := wy_c.ne2 hq.2.2.2.2.1 hn_12 (hd1 3 (by decide)).symm
              have hc_17 := wy_c.ne2 hq.2.2.2.2.2.1 hn_12 (hd1 4 (by decide)).symm
              have hc_18 := wy_c.ne2 hq.2.2.2.2.2.2.1 hn_12 (hd1 5 (by decide)).symm
              have hc_19 := wy_c.ne2 hq.2.2.2.2.2.2.2.1 hn_12 (hd1 6 (by decide)).symm
              have hc_20 := wy_c.ne2 hq.2.2.2.2.2.2.2.2.1 hn_12 (hd1 7 (by decide)).symm
              have hc_21 := wy_c.ne2 hq.2.2.2.2.2.2.2.2.2.1 hn_12 (hd1 8 (by decide)).symm
              have hc_22 := wy_c.ne2 hq.2.2.2.2.2.2.2.2.2.2.1 hn_12 (hd1 9 (by decide)).symm
              have hc_23 : wy_c L f_10 om (.inr (3, [.int km, .int mn, .int (nI n), .ref (ma 0), .ref (ma 1), .ref (ma 2), .ref (ma 3), .ref (ma 4), .ref (ma 5), .ref (ma 6), .ref (ma 7), .ref (ma 8), .int (nI (wk + 1)), .ref (ma 9), .int 0])) := hs_11
              refine lv_iload_n hx hb dX2_closeWeek_98 rfl (lv_at hl 1 rfl) ?_
              have hq : wm_S G L f_10 om ma n km mn (wk + 1) 0 g0 g1 g2 g3 g4 g5 g6 g7 g8 g9c := ⟨hc_23, hc_13, hc_14, hc_15, hc_16, hc_17, hc_18, hc_19, hc_20, hc_21, hc_22, hd1, hd2, (by omega), (by omega)⟩
              exact wy_iW hx hb hr hlocks dX2_closeWeek_99 hw (Nat.le_of_ble_eq_true rfl) (Nat.le_of_ble_eq_true rfl) (wm_ok (by simp [cwC, bc_2, hund, nc_5]) ha_s hq hmc)
            · have nc_8 : ¬ (5 ≤ i) := fun z => c_8 ((wy_ge ei_i (rfl : (5 : Int32) = nI 5) (by first | omega | exact hsN _ _ | exact hdN _ _ | exact Nat.lt_of_le_of_lt (cb_le _ _) (by omega)) (by decide)).mpr z)
              exact absurd nc_8 (by omega)
          | succ d ih_d =>
            intro i hd_i xi_i ei_i a_s ha_s g9c hmc H locs fc hw hq ls hl
            have hm := hmc
            refine lv_iload_n hx hb dX2_closeWeek_35 rfl (lv_at hl 0 rfl) ?_
            refine lv_iconst (v := 5) hx hb dX2_closeWeek_36 (by decide) ?_
            refine lv_icmp_ge (tgt := 88) hx hb dX2_closeWeek_37 (by decide) (fun c_24 => ?_) (fun c_24 => ?_)
            · have nc_24 : 5 ≤ i := (wy_ge ei_i (rfl : (5 : Int32) = nI 5) (by first | omega | exact hsN _ _ | exact hdN _ _ | exact Nat.lt_of_le_of_lt (cb_le _ _) (by omega)) (by decide)).mp c_24
              exact absurd nc_24 (by omega)
            · have nc_24 : ¬ (5 ≤ i) := fun z => c_24 ((wy_ge ei_i (rfl : (5 : Int32) = nI 5) (by first | omega | exact hsN _ _ | exact hdN _ _ | exact Nat.lt_of_le_of_lt (cb_le _ _) (by omega)) (by decide)).mpr z)
              refine lv_aload_n hx hb dX2_closeWeek_40 rfl (lv_at hl 2 rfl) ?_
              refine lv_iload_n hx hb dX2_closeWeek_41 rfl (lv_at hl 0 rfl) ?_
              refine lv_aload_n hx hb dX2_closeWeek_42 rfl (lv_at hl 2 rfl) ?_
              refine wy_get (ci := 3) (v := .int (nI wk)) (C := RX2) (T := TX2) (N := 15) hx hb hts hinX2 hown hK hw.1 hq.1 rfl 12 (by decide) (hts (.fieldLink RX2 71 "WheelpayModel" "week" "I") (by decide +kernel)) (fun _ h9 => h9) rfl dX2_closeWeek_43 ?_
              refine lv_iconst (v := 1) hx hb dX2_closeWeek_46 (by decide) ?_
              refine lv_iadd hx hb dX2_closeWeek_47 ?_
              refine lv_topi (fun x_25 ex_25 => ?_)
              have nx_25 : x_25 = nI (wk + 1) := ex_25.trans ((congr (congrArg (fun u v : Int32 => u + v) rfl) (rfl : (1 : Int32) = nI 1)).trans (nI_add _ _))
              refine vp_callSi (W.runV (As := [.int xi_i, .int x_25]) (rest := []) ⟨hx, hb, hml, hown, hts⟩ (m_X2_owes l hq hm hi ht (xi_i) (x_25) (i) (wk + 1) (by omega) (by omega) ei_i nx_25) (cwV 2 hts gX2_closeWeek_X2_owes rfl rfl rfl (by decide +kernel) ⟨Nat.le_of_ble_eq_true rfl, Nat.le_of_ble_eq_true rfl⟩) (wy_pVR hK hw.1 hq.1 rfl) rfl rfl hl.1 rfl (lv_room (Nat.le_of_ble_eq_true rfl)) dX2_closeWeek_48 ⟨Nat.le_of_ble_eq_true rfl, Nat.le_of_ble_eq_true rfl⟩) (fun r_26 er_26 => ?_)
              obtain rfl : r_26 = dueW rr n po wk i := er_26.trans (by rw [poW_i, ei_i]; rfl)
              refine lv_istore_n (lv' := [(3, .int (dueW rr n po wk i)), (2, .int xi_i), (1, .int a_s), (0, .ref om)]) hx hb dX2_closeWeek_51 rfl hl (by decide) rfl (fun ls hl => ?_)
              refine lv_aload_n hx hb dX2_closeWeek_52 rfl (lv_at hl 3 rfl) ?_
              refine wy_get (ci := 3) (v := .ref (ma 9)) (C := RX2) (T := TX2) (N := 15) hx hb hts hinX2 hown hK hw.1 hq.1 rfl 13 (by decide) (hts (.fieldLink RX2 45 "WheelpayModel" "paid" "[I") (by decide +kernel)) (fun _ h9 => h9) rfl dX2_closeWeek_53 ?_
              refine lv_iload_n hx hb dX2_closeWeek_56 rfl (lv_at hl 1 rfl) ?_
              refine lv_dup2_11 hx hb dX2_closeWeek_57 rfl rfl ?_
              refine wy_iald hx hb hK hw.1 hq.2.2.2.2.2.2.2.2.2.2.1 (i) ei_i (by omega) (by omega) dX2_closeWeek_58 ?_
              rw [show g9c (i) = po i from (hm.2 (i) (by omega)).trans (poW_i rr n po wk (i))]
              refine lv_iload_n hx hb dX2_closeWeek_59 rfl (lv_at hl 0 rfl) ?_
              refine lv_if_le (tgt := 67) hx hb dX2_closeWeek_60 (by decide) (fun c_27 => ?_) (fun c_27 => ?_)
              · refine lv_iconst (v := 0) hx hb dX2_closeWeek_67 (by decide) ?_
                refine lv_iadd hx hb dX2_closeWeek_68 ?_
                refine lv_topi (fun x_28 ex_28 => ?_)
                have hz : x_28 = po i + (if 0 < dueW rr n po wk i then dueW rr n po wk i else 0) := by
                  rw [if_neg (Int32.not_lt.mpr c_27)]; simp only [ex_25, ex_28]
                refine wy_iast hx hb hK hw hq.2.2.2.2.2.2.2.2.2.2.1 (i) ei_i (by omega) (by omega) dX2_closeWeek_69 (fun H locs f_29 hs_30 hn_31 hw => ?_)
                have hc_32 := wy_c.ne2 hq.1 hn_31 (hd1 9 (by decide))
                have hc_33 := wy_c.ne2 hq.2.1 hn_31 (hd2 0 9 (by decide) (by decide) (by decide))
                have hc_34 := wy_c.ne2 hq.2.2.1 hn_31 (hd2 1 9 (by decide) (by decide) (by decide))
                have hc_35 := wy_c.ne2 hq.2.2.2.1 hn_31 (hd2 2 9 (by decide) (by decide) (by decide))
                have hc_36 := wy_c.ne2 hq.2.2.2.2.1 hn_31 (hd2 3 9 (by decide) (by decide) (by decide))
                have hc_37 := wy_c.ne2 hq.2.2.2.2.2.1 hn_31 (hd2 4 9 (by decide) (by decide) (by decide))
                have hc_38 := wy_c.ne2 hq.2.2.2.2.2.2.1 hn_31 (hd2 5 9 (by decide) (by decide) (by decide))
                have hc_39 := wy_c.ne2 hq.2.2.2.2.2.2.2.1 hn_31 (hd2 6 9 (by decide) (by decide) (by decide))
                have hc_40 := wy_c.ne2 hq.2.2.2.2.2.2.2.2.1 hn_31 (hd2 7 9 (by decide) (by decide) (by decide))
                have hc_41 := wy_c.ne2 hq.2.2.2.2.2.2.2.2.2.1 hn_31 (hd2 8 9 (by decide) (by decide) (by decide))
                have hq : wm_S G L f_29 om ma n km mn wk 0 g0 g1 g2 g3 g4 g5 g6 g7 g8 (upd g9c i x_28) := ⟨hc_32, hc_33, hc_34, hc_35, hc_36, hc_37, hc_38, hc_39, hc_40, hc_41, hs_30, hd1, hd2, hn, hwk⟩
                refine lv_iload_n hx hb dX2_closeWeek_70 rfl (lv_at hl 2 rfl) ?_
                refine lv_iload_n hx hb dX2_closeWeek_71 rfl (lv_at hl 0 rfl) ?_
                refine lv_if_le (tgt := 79) hx hb dX2_closeWeek_72 (by decide) (fun c_42 => ?_) (fun c_42 => ?_)
                · refine lv_iconst (v := 0) hx hb dX2_closeWeek_79 (by decide) ?_
                  refine lv_iadd hx hb dX2_closeWeek_80 ?_
                  refine lv_topi (fun x_43 ex_43 => ?_)
                  refine lv_istore_n (lv' := [(1, .int x_43), (3, .int (dueW rr n po wk i)), (2, .int xi_i), (0, .ref om)]) hx hb dX2_closeWeek_81 rfl hl (by decide) rfl (fun ls hl => ?_)
                  obtain ⟨x_44, ex_44⟩ : ∃ y : Int32, y = xi_i + 1 := ⟨_, rfl⟩
                  have nx_44 : x_44 = nI (i + 1) := by rw [ex_44, ei_i, nI_1]
                  refine lv_iinc (v := x_44) (lv' := [(2, .int x_44), (1, .int x_43), (3, .int (dueW rr n po wk i)), (0, .ref om)]) hx hb dX2_closeWeek_82 hl (k := 2) rfl (by rw [ex_44]; rfl) (by decide) rfl (fun ls hl => ?_)
                  refine lv_goto (tgt := 35) hx hb dX2_closeWeek_85 (by decide) ?_
                  exact ih_d (i + 1) (by omega) _ nx_44 _ (by rw [ex_43, ha_s]; show _ = totW rr n po wk i + (if 0 < dueW rr n po wk i then dueW rr n po wk i else 0); rw [if_neg (Int32.not_lt.mpr c_27)]) _ (wm_poW hm hz) _ _ _ hw hq ls (lv_sub hl [0, 1, 3] rfl)
                · exact absurd c_27 c_42
              · refine lv_iload_n hx hb dX2_closeWeek_63 rfl (lv_at hl 0 rfl) ?_
                refine lv_goto (tgt := 68) hx hb dX2_closeWeek_64 (by decide) ?_
                refine lv_iadd hx hb dX2_closeWeek_68 ?_
                refine lv_topi (fun x_45 ex_45 => ?_)
                have hz : x_45 = po i + (if 0 < dueW rr n po wk i then dueW rr n po wk i else 0) := by
                  rw [if_pos (Int32.not_le.mp c_27)]; simp only [ex_25, ex_45]
                refine wy_iast hx hb hK hw hq.2.2.2.2.2.2.2.2.2.2.1 (i) ei_i (by omega) (by omega) dX2_closeWeek_69 (fun H locs f_46 hs_47 hn_48 hw => ?_)
                have hc_49 := wy_c.ne2 hq.1 hn_48 (hd1 9 (by decide))
                have hc_50 := wy_c.ne2 hq.2.1 hn_48 (hd2 0 9 (by decide) (by decide) (by decide))
                have hc_51 := wy_c.ne2 hq.2.2.1 hn_48 (hd2 1 9 (by decide) (by decide) (by decide))
                have hc_52 := wy_c.ne2 hq.2.2.2.1 hn_48 (hd2 2 9 (by decide) (by decide) (by decide))
                have hc_53 := wy_c.ne2 hq.2.2.2.2.1 hn_48 (hd2 3 9 (by decide) (by decide) (by decide))
                have hc_54 := wy_c.ne2 hq.2.2.2.2.2.1 hn_48 (hd2 4 9 (by decide) (by decide) (by decide))
                have hc_55 := wy_c.ne2 hq.2.2.2.2.2.2.1 hn_48 (hd2 5 9 (by decide) (by decide) (by decide))
                have hc_56 := wy_c.ne2 hq.2.2.2.2.2.2.2.1 hn_48 (hd2 6 9 (by decide) (by decide) (by decide))
                have hc_57 := wy_c.ne2 hq.2.2.2.2.2.2.2.2.1 hn_48 (hd2 7 9 (by decide) (by decide) (by decide))
                have hc_58 := wy_c.ne2 hq.2.2.2.2.2.2.2.2.2.1 hn_48 (hd2 8 9 (by decide) (by decide) (by decide))
                have hq : wm_S G L f_46 om ma n km mn wk 0 g0 g1 g2 g3 g4 g5 g6 g7 g8 (upd g9c i x_45) := ⟨hc_49, hc_50, hc_51, hc_52, hc_53, hc_54, hc_55, hc_56, hc_57, hc_58, hs_47, hd1, hd2, hn, hwk⟩
                refine lv_iload_n hx hb dX2_closeWeek_70 rfl (lv_at hl 2 rfl) ?_
                refine lv_iload_n hx hb dX2_closeWeek_71 rfl (lv_at hl 0 rfl) ?_
                refine lv_if_le (tgt := 79) hx hb dX2_closeWeek_72 (by decide) (fun c_59 => ?_) (fun c_59 => ?_)
                · exact absurd c_59 c_27
                · refine lv_iload_n hx hb dX2_closeWeek_75 rfl (lv_at hl 0 rfl) ?_
                  refine lv_goto (tgt := 80) hx hb dX2_closeWeek_76 (by decide) ?_
                  refine lv_iadd hx hb dX2_closeWeek_80 ?_
                  refine lv_topi (fun x_60 ex_60 => ?_)
                  refine lv_istore_n (lv' := [(1, .int x_60), (3, .int (dueW rr n po wk i)), (2, .int xi_i), (0, .ref om)]) hx hb dX2_closeWeek_81 rfl hl (by decide) rfl (fun ls hl => ?_)
                  obtain ⟨x_61, ex_61⟩ : ∃ y : Int32, y = xi_i + 1 := ⟨_, rfl⟩
                  have nx_61 : x_61 = nI (i + 1) := by rw [ex_61, ei_i, nI_1]
                  refine lv_iinc (v := x_61) (lv' := [(2, .int x_61), (1, .int x_60), (3, .int (dueW rr n po wk i)), (0, .ref om)]) hx hb dX2_closeWeek_82 hl (k := 2) rfl (by rw [ex_61]; rfl) (by decide) rfl (fun ls hl => ?_)
                  refine lv_goto (tgt := 35) hx hb dX2_closeWeek_85 (by decide) ?_
                  exact ih_d (i + 1) (by omega) _ nx_61 _ (by rw [ex_60, ha_s]; show _ = totW rr n po wk i + (if 0 < dueW rr n po wk i then dueW rr n po wk i else 0); rw [if_pos (Int32.not_le.mp c_27)]) _ (wm_poW hm hz) _ _ _ hw hq ls (lv_sub hl [0, 1, 3] rfl)
        exact KK (5) 0 (by omega) _ rfl _ rfl _ (by rw [poW_0]; exact hm) _ _ _ hw hq ls (lv_sub hl [0, 1, 2] rfl)
      · exact absurd rfl c_7
    · have nc_5 : wk = 20 := (wy_eq rfl (rfl : (20 : Int32) = nI 20) (by first | omega | exact hsN _ _ | exact hdN _ _ | exact Nat.lt_of_le_of_lt (cb_le _ _) (by omega)) (by decide)).mp c_5
      refine lv_iconst (v := 1) hx hb dX2_closeWeek_18 (by decide) ?_
      refine lv_goto (tgt := 23) hx hb dX2_closeWeek_19 (by decide) ?_
      refine wy_call (va_runV (As := [.int 1]) (rest := []) ⟨hx, hb, hml, hown, hts⟩ (m_X2_fails l hq (1)) (cwV 1 hts gX2_closeWeek_X2_fails rfl rfl rfl (by decide +kernel) ⟨Nat.le_of_ble_eq_true rfl, Nat.le_of_ble_eq_true rfl⟩) (wy_pVW hK hw hq.1 rfl) rfl rfl hl.1 rfl (lv_room (Nat.le_of_ble_eq_true rfl)) dX2_closeWeek_23 ⟨Nat.le_of_ble_eq_true rfl, Nat.le_of_ble_eq_true rfl⟩) hw hA (fun rw_62 Lw_62 fw_62 H locs hpost hw => ?_)
      obtain ⟨er_62, eL_62, hq⟩ := hpost
      subst er_62
      obtain rfl := eL_62.symm
      rw [show bI (decide ((0 : Int32) < 1)) = 1 from rfl]
      refine lv_if_eq (tgt := 31) hx hb dX2_closeWeek_26 (by decide) (fun c_63 => ?_) (fun c_63 => ?_)
      · exact absurd c_63 (by decide)
      · have bc_63 : (true) = true := bI_1 (fun z => c_63 (rfl.trans z))
        refine lv_iconst (v := 0) hx hb dX2_closeWeek_29 (by decide) ?_
        exact wy_iW hx hb hr hlocks dX2_closeWeek_30 hw (Nat.le_of_ble_eq_true rfl) (Nat.le_of_ble_eq_true rfl) (wm_no (by simp [cwC, bc_2, bc_63, hund, nc_5]) (by decide) hq hm)
