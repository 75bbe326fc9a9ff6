theorem avs_eq {t n r : Nat} {rr : Nat → wr_V} (hi : ∀ k, k < 40 → wi t (rr k)) (hn : n ≤ 40) (ht : t ≤ 512) (hr : r < 10) : bx_sum (fun k => if rfi (rr k) then rch (rr k) r - (if false then rrf (rr k) r else 0) else 0) n = avsS rr n r := by
  refine bx_congr n (fun k hk => ?_)
  cases hf : rfi (rr k) with
  | false => simp
  | true =>
    by_cases h : 0 < rch (rr k) r
    · simp [h]
    · have h0 := wi_pos (hi k (by omega)) ht hr (Int32.not_lt.mp h)
      rw [h0]; simp
set_option maxHeartbeats 4000000 in
set_option maxRecDepth 100000 in
theorem m_X2_averageCharge (l : Launch) {G : wy_G} {L : List Nat} {f : Nat → va_E} {sz : Nat} {om : Nat} {ma : Nat → Nat} {n : Nat} {km mn : Int32} {wk : Nat} {th : Int32} {po : Nat → Int32} {rr : Nat → wr_V} {g0 g1 g2 g3 g4 g5 g6 g7 g8 g9 : Nat → Int32} {t : Nat} (hq : wm_S G L f om ma n km mn wk th g0 g1 g2 g3 g4 g5 g6 g7 g8 g9) (hm : wm_r po rr g0 g1 g2 g3 g4 g5 g6 g7 g8 g9) (hi : ∀ k, k < 40 → wi t (rr k)) (ht1 : t + 1 ≤ 512) (p1 : Int32) : Met l yX2_averageCharge wsX2_averageCharge ({ frames := 1, cells := 0, slots := 0, locals := 25 } : Room) (va_Pc [.ref om, .int p1] (wy_W G L f sz)) (wy_Q G (wm_p G L om ma n km mn wk po rr (avC rr n p1) (some (.float (if avC rr n p1 = 0 then mean (avsS rr n (ix p1)) (avcS rr n (ix p1)) else 0)))) (wy_A L sz)) 0 0 (wy_A L sz) := by
  refine Met.ofW (cc := cX2_averageCharge) (maxL := 4) (ret := (some .float)) (by decide) rfl ?_
  intro p e s m args below meth c s₁ B hml hv
  obtain ⟨rfl, hv⟩ := hv
  obtain ⟨hw, hK, hA⟩ := wy_start hv
  have hsz := hv.1
  subst hsz
  have hx := B.exec
  have hb := B.bytes
  have hr := B.returns
  have hts := atoms_spec (ws := wsX2_averageCharge) B.pre
  have hown : s.vm.findClass RX2 = some m.cls := findClass_of_methodNamed B.named
  have hlocks := B.notSynchronized
  have hinX2 : ∀ w ∈ wsX20, w ∈ wsX2_averageCharge := by decide +kernel
  have hn : n ≤ 40 := hq.2.2.2.2.2.2.2.2.2.2.2.2.2.1
  have hwk : wk ≤ 20 := hq.2.2.2.2.2.2.2.2.2.2.2.2.2.2
  have hsN : ∀ v r, stN v r < 2 ^ 31 := fun v r => by unfold stN; split <;> (try split) <;> (try split) <;> decide
  have hdN : ∀ v r, dpN v r < 2 ^ 31 := fun v r => by unfold dpN; split <;> (try split) <;> (try split) <;> decide
  have hd1 := hq.2.2.2.2.2.2.2.2.2.2.2.1
  have hd2 := hq.2.2.2.2.2.2.2.2.2.2.2.2.1
  have ht : t ≤ 512 := by omega
  have hl := lv_entry ([.ref om, .int p1]) (n := 4) (Nat.le_of_ble_eq_true rfl)
  rw [lg_entry_eq]
  generalize (lg_sl ([.ref om, .int p1]) ++ List.replicate (4 - (lg_sl ([.ref om, .int p1])).length) Slot.unset).toArray = ls at hl ⊢
  have hl : lv_has ls 4 [(0, .ref om), (1, .int p1)] := hl
  refine lv_aload_n hx hb dX2_averageCharge_0 rfl (lv_at hl 0 rfl) ?_
  refine lv_iload_n hx hb dX2_averageCharge_1 rfl (lv_at hl 1 rfl) ?_
  refine lv_iconst (v := 0) hx hb dX2_averageCharge_2 (by decide) ?_
  refine lv_bipush (v := 9) hx hb dX2_averageCharge_3 (by decide) ?_
  refine vp_callSi (W.runS (As := [.int p1, .int 0, .int 9]) (rest := [.ref om]) ⟨hx, hb, hml, hown, hts⟩ (m_X2_isIn l (p1) (0) (9)) (va_cwS 3 hts gX2_averageCharge_X2_isIn rfl rfl rfl (by decide +kernel) ⟨Nat.le_of_ble_eq_true rfl, Nat.le_of_ble_eq_true rfl⟩) (wy_pSN) rfl rfl hl.1 rfl (lv_room (Nat.le_of_ble_eq_true rfl)) dX2_averageCharge_5 ⟨Nat.le_of_ble_eq_true rfl, Nat.le_of_ble_eq_true rfl⟩) (fun r_1 er_1 => ?_)
  have hr_2 : r_1 = bI (okN 10 p1) := er_1.trans (congrArg bI (rng_okN (n := 10) (by decide) rfl (fun z => absurd z (by decide))))
  refine lv_if_eq (tgt := 15) hx hb dX2_averageCharge_8 (by decide) (fun c_3 => ?_) (fun c_3 => ?_)
  · have bc_3 : (okN 10 p1) = false := bI_0 (hr_2.symm.trans c_3)
    refine lv_iconst (v := 1) hx hb dX2_averageCharge_15 (by decide) ?_
    refine wy_call (va_runV (As := [.int 1]) (rest := []) ⟨hx, hb, hml, hown, hts⟩ (m_X2_fails l hq (1)) (cwV 1 hts gX2_averageCharge_X2_fails rfl rfl rfl (by decide +kernel) ⟨Nat.le_of_ble_eq_true rfl, Nat.le_of_ble_eq_true rfl⟩) (wy_pVW hK hw hq.1 rfl) rfl rfl hl.1 rfl (lv_room (Nat.le_of_ble_eq_true rfl)) dX2_averageCharge_16 ⟨Nat.le_of_ble_eq_true rfl, Nat.le_of_ble_eq_true rfl⟩) hw hA (fun rw_4 Lw_4 fw_4 H locs hpost hw => ?_)
    obtain ⟨er_4, eL_4, hq⟩ := hpost
    subst er_4
    obtain rfl := eL_4.symm
    rw [show bI (decide ((0 : Int32) < 1)) = 1 from rfl]
    refine lv_if_eq (tgt := 24) hx hb dX2_averageCharge_19 (by decide) (fun c_5 => ?_) (fun c_5 => ?_)
    · exact absurd c_5 (by decide)
    · have bc_5 : (true) = true := bI_1 (fun z => c_5 (rfl.trans z))
      refine lv_fconst0 hx hb dX2_averageCharge_22 ?_
      exact wy_fW hx hb hr hlocks dX2_averageCharge_23 hw (Nat.le_of_ble_eq_true rfl) (Nat.le_of_ble_eq_true rfl) (by rw [show avC rr n p1 = 1 from (by simp [avC, bc_3, bc_5])]; exact ⟨(congrArg (fun z => some (Value.float z)) (if_neg (by decide))).symm, rfl, g0, g1, g2, g3, g4, g5, g6, g7, g8, g9, hq, hm⟩)
  · have bc_3 : (okN 10 p1) = true := bI_1 (fun z => c_3 (hr_2.trans z))
    obtain ⟨hk5, e1⟩ := okN_ix bc_3 (by omega)
    refine lv_iconst (v := 0) hx hb dX2_averageCharge_11 (by decide) ?_
    refine lv_goto (tgt := 16) hx hb dX2_averageCharge_12 (by decide) ?_
    refine wy_call (va_runV (As := [.int 0]) (rest := []) ⟨hx, hb, hml, hown, hts⟩ (m_X2_fails l hq (0)) (cwV 1 hts gX2_averageCharge_X2_fails rfl rfl rfl (by decide +kernel) ⟨Nat.le_of_ble_eq_true rfl, Nat.le_of_ble_eq_true rfl⟩) (wy_pVW hK hw hq.1 rfl) rfl rfl hl.1 rfl (lv_room (Nat.le_of_ble_eq_true rfl)) dX2_averageCharge_16 ⟨Nat.le_of_ble_eq_true rfl, Nat.le_of_ble_eq_true rfl⟩) hw hA (fun rw_6 Lw_6 fw_6 H locs hpost hw => ?_)
    obtain ⟨er_6, eL_6, hq⟩ := hpost
    subst er_6
    obtain rfl := eL_6.symm
    rw [show bI (decide ((0 : Int32) < 0)) = 0 from rfl]
    refine lv_if_eq (tgt := 24) hx hb dX2_averageCharge_19 (by decide) (fun c_7 => ?_) (fun c_7 => ?_)
    · have bc_7 : (false) = false := bI_0 (rfl.symm.trans c_7)
      refine lv_iconst (v := 0) hx hb dX2_averageCharge_24 (by decide) ?_
      refine lv_istore_n (lv' := [(2, .int 0), (0, .ref om), (1, .int p1)]) hx hb dX2_averageCharge_25 rfl hl (by decide) rfl (fun ls hl => ?_)
      refine lv_iconst (v := 0) hx hb dX2_averageCharge_26 (by decide) ?_
      refine lv_istore_n (lv' := [(3, .int 0), (2, .int 0), (0, .ref om), (1, .int p1)]) hx hb dX2_averageCharge_27 rfl hl (by decide) rfl (fun ls hl => ?_)
      have KK : ∀ (d i : Nat), i + d = n → ∀ (xi_i : Int32), xi_i = nI (i) → ∀ (c_s : Int32), c_s = nI (cb (fun k => rfi (rr k) && decide (0 < rch (rr k) (ix p1))) i) → ∀ (H : Heap) (locs : List Loc) (fc : Nat → va_E), wy_H G L fc (wy_A L s.heap.size) s.heap H locs → wm_S G L fc om ma n km mn wk 0 g0 g1 g2 g3 g4 g5 g6 g7 g8 g9 → ∀ ls : Array Slot, lv_has ls 4 [(3, .int xi_i), (2, .int c_s), (0, .ref om), (1, .int p1)] → W p l e (headSpec wsX2_averageCharge ({ frames := 1, cells := 0, slots := 0, locals := 25 } : Room)).room s m ([.ref om, .int p1] : List Value).toArray below meth c H locs 0 0 (MQ below (wy_Q G (wm_p G L om ma n km mn wk po rr (avC rr n p1) (some (.float (if avC rr n p1 = 0 then mean (avsS rr n (ix p1)) (avcS rr n (ix p1)) else 0)))) (wy_A L s.heap.size)) ([.ref om, .int p1] : List Value).toArray s 0 0 (wy_A L s.heap.size)) (F0 m 28 ls []) := by
        intro d
        induction d with
        | zero =>
          intro i hd_i xi_i ei_i c_s hc_s H locs fc hw hq ls hl
          refine lv_iload_n hx hb dX2_averageCharge_28 rfl (lv_at hl 0 rfl) ?_
          refine lv_aload_n hx hb dX2_averageCharge_29 rfl (lv_at hl 2 rfl) ?_
          refine wy_get (ci := 3) (v := .int (nI n)) (C := RX2) (T := TX2) (N := 15) hx hb hts hinX2 hown hK hw.1 hq.1 rfl 2 (by decide) (hts (.fieldLink RX2 51 "WheelpayModel" "rides" "I") (by decide +kernel)) (fun _ h9 => h9) rfl dX2_averageCharge_30 ?_
          refine lv_icmp_ge (tgt := 73) hx hb dX2_averageCharge_33 (by decide) (fun c_8 => ?_) (fun c_8 => ?_)
          · have nc_8 : n ≤ i := (wy_ge ei_i rfl (by first | omega | exact hsN _ _ | exact hdN _ _ | exact Nat.lt_of_le_of_lt (cb_le _ _) (by omega)) (by first | omega | exact hsN _ _ | exact hdN _ _ | exact Nat.lt_of_le_of_lt (cb_le _ _) (by omega))).mp c_8
            obtain rfl : n = i := by omega
            refine lv_aload_n hx hb dX2_averageCharge_73 rfl (lv_at hl 2 rfl) ?_
            refine lv_iload_n hx hb dX2_averageCharge_74 rfl (lv_at hl 1 rfl) ?_
            refine lv_if_ne (tgt := 82) hx hb dX2_averageCharge_75 (by decide) (fun c_9 => ?_) (fun c_9 => ?_)
            · have hav : ¬ avcS rr n (ix p1) = 0 := fun z => c_9 ((wy_eq hc_s (rfl : (0 : Int32) = nI 0) (Nat.lt_of_le_of_lt (cb_le _ _) (by omega)) (by decide)).mpr z)
              refine lv_iconst (v := 0) hx hb dX2_averageCharge_82 (by decide) ?_
              refine wy_call (va_runV (As := [.int 0]) (rest := []) ⟨hx, hb, hml, hown, hts⟩ (m_X2_fails l hq (0)) (cwV 1 hts gX2_averageCharge_X2_fails rfl rfl rfl (by decide +kernel) ⟨Nat.le_of_ble_eq_true rfl, Nat.le_of_ble_eq_true rfl⟩) (wy_pVW hK hw hq.1 rfl) rfl rfl hl.1 rfl (lv_room (Nat.le_of_ble_eq_true rfl)) dX2_averageCharge_83 ⟨Nat.le_of_ble_eq_true rfl, Nat.le_of_ble_eq_true rfl⟩) hw hA (fun rw_10 Lw_10 fw_10 H locs hpost hw => ?_)
              obtain ⟨er_10, eL_10, hq⟩ := hpost
              subst er_10
              obtain rfl := eL_10.symm
              rw [show bI (decide ((0 : Int32) < 0)) = 0 from rfl]
              refine lv_if_eq (tgt := 93) hx hb dX2_averageCharge_86 (by decide) (fun c_11 => ?_) (fun c_11 => ?_)
              · have bc_11 : (false) = false := bI_0 (rfl.symm.trans c_11)
                refine lv_aload_n hx hb dX2_averageCharge_93 rfl (lv_at hl 2 rfl) ?_
                refine lv_iload_n hx hb dX2_averageCharge_94 rfl (lv_at hl 3 rfl) ?_
                refine lv_iconst (v := 0) hx hb dX2_averageCharge_95 (by decide) ?_
                rw [show (0 : Int32) = bI false from rfl]
                refine vp_callSi (W.runV (As := [.int p1, .int (bI false)]) (rest := []) ⟨hx, hb, hml, hown, hts⟩ (m_X2_spends l hq hm hi ht (p1) ((ix p1)) (by omega) e1 false) (cwV 2 hts gX2_averageCharge_X2_spends rfl rfl rfl (by decide +kernel) ⟨Nat.le_of_ble_eq_true rfl, Nat.le_of_ble_eq_true rfl⟩) (wy_pVR hK hw.1 hq.1 rfl) rfl rfl hl.1 rfl (lv_room (Nat.le_of_ble_eq_true rfl)) dX2_averageCharge_96 ⟨Nat.le_of_ble_eq_true rfl, Nat.le_of_ble_eq_true rfl⟩) (fun r_12 er_12 => ?_)
                obtain rfl : r_12 = avsS rr n (ix p1) := er_12.trans (avs_eq (fun k hk => hi k hk) hn ht hk5)
                refine lv_i2f hx hb dX2_averageCharge_99 ?_
                refine lv_iload_n hx hb dX2_averageCharge_100 rfl (lv_at hl 1 rfl) ?_
                refine lv_i2f hx hb dX2_averageCharge_101 ?_
                rw [hc_s]
                refine lv_fdiv hx hb dX2_averageCharge_102 (mean_n (avsS rr n (ix p1)) hav (Nat.le_trans (cb_le _ _) hn)) ?_
                exact wy_fW hx hb hr hlocks dX2_averageCharge_103 hw (Nat.le_of_ble_eq_true rfl) (Nat.le_of_ble_eq_true rfl) (by rw [show avC rr n p1 = 0 from (by simp [avC, bc_3, hav])]; exact ⟨(congrArg (fun z => some (Value.float z)) (if_pos rfl)).symm, rfl, g0, g1, g2, g3, g4, g5, g6, g7, g8, g9, hq, hm⟩)
              · exact absurd rfl c_11
            · have hav : avcS rr n (ix p1) = 0 := (wy_eq hc_s (rfl : (0 : Int32) = nI 0) (Nat.lt_of_le_of_lt (cb_le _ _) (by omega)) (by decide)).mp c_9
              refine lv_iconst (v := 2) hx hb dX2_averageCharge_78 (by decide) ?_
              refine lv_goto (tgt := 83) hx hb dX2_averageCharge_79 (by decide) ?_
              refine wy_call (va_runV (As := [.int 2]) (rest := []) ⟨hx, hb, hml, hown, hts⟩ (m_X2_fails l hq (2)) (cwV 1 hts gX2_averageCharge_X2_fails rfl rfl rfl (by decide +kernel) ⟨Nat.le_of_ble_eq_true rfl, Nat.le_of_ble_eq_true rfl⟩) (wy_pVW hK hw hq.1 rfl) rfl rfl hl.1 rfl (lv_room (Nat.le_of_ble_eq_true rfl)) dX2_averageCharge_83 ⟨Nat.le_of_ble_eq_true rfl, Nat.le_of_ble_eq_true rfl⟩) hw hA (fun rw_13 Lw_13 fw_13 H locs hpost hw => ?_)
              obtain ⟨er_13, eL_13, hq⟩ := hpost
              subst er_13
              obtain rfl := eL_13.symm
              rw [show bI (decide ((0 : Int32) < 2)) = 1 from rfl]
              refine lv_if_eq (tgt := 93) hx hb dX2_averageCharge_86 (by decide) (fun c_14 => ?_) (fun c_14 => ?_)
              · exact absurd c_14 (by decide)
              · have bc_14 : (true) = true := bI_1 (fun z => c_14 (rfl.trans z))
                refine lv_fconst0 hx hb dX2_averageCharge_89 ?_
                refine lv_goto (tgt := 103) hx hb dX2_averageCharge_90 (by decide) ?_
                exact wy_fW hx hb hr hlocks dX2_averageCharge_103 hw (Nat.le_of_ble_eq_true rfl) (Nat.le_of_ble_eq_true rfl) (by rw [show avC rr n p1 = 2 from (by simp [avC, bc_3, bc_14, hav])]; exact ⟨(congrArg (fun z => some (Value.float z)) (if_neg (by decide))).symm, rfl, g0, g1, g2, g3, g4, g5, g6, g7, g8, g9, hq, hm⟩)
          · have nc_8 : ¬ (n ≤ i) := fun z => c_8 ((wy_ge ei_i rfl (by first | omega | exact hsN _ _ | exact hdN _ _ | exact Nat.lt_of_le_of_lt (cb_le _ _) (by omega)) (by first | omega | exact hsN _ _ | exact hdN _ _ | exact Nat.lt_of_le_of_lt (cb_le _ _) (by omega))).mpr z)
            exact absurd nc_8 (by omega)
        | succ d ih_d =>
          intro i hd_i xi_i ei_i c_s hc_s H locs fc hw hq ls hl
          refine lv_iload_n hx hb dX2_averageCharge_28 rfl (lv_at hl 0 rfl) ?_
          refine lv_aload_n hx hb dX2_averageCharge_29 rfl (lv_at hl 2 rfl) ?_
          refine wy_get (ci := 3) (v := .int (nI n)) (C := RX2) (T := TX2) (N := 15) hx hb hts hinX2 hown hK hw.1 hq.1 rfl 2 (by decide) (hts (.fieldLink RX2 51 "WheelpayModel" "rides" "I") (by decide +kernel)) (fun _ h9 => h9) rfl dX2_averageCharge_30 ?_
          refine lv_icmp_ge (tgt := 73) hx hb dX2_averageCharge_33 (by decide) (fun c_15 => ?_) (fun c_15 => ?_)
          · have nc_15 : n ≤ i := (wy_ge ei_i rfl (by first | omega | exact hsN _ _ | exact hdN _ _ | exact Nat.lt_of_le_of_lt (cb_le _ _) (by omega)) (by first | omega | exact hsN _ _ | exact hdN _ _ | exact Nat.lt_of_le_of_lt (cb_le _ _) (by omega))).mp c_15
            exact absurd nc_15 (by omega)
          · have nc_15 : ¬ (n ≤ i) := fun z => c_15 ((wy_ge ei_i rfl (by first | omega | exact hsN _ _ | exact hdN _ _ | exact Nat.lt_of_le_of_lt (cb_le _ _) (by omega)) (by first | omega | exact hsN _ _ | exact hdN _ _ | exact Nat.lt_of_le_of_lt (cb_le _ _) (by omega))).mpr z)
            refine lv_iload_n hx hb dX2_averageCharge_36 rfl (lv_at hl 1 rfl) ?_
            refine lv_aload_n hx hb dX2_averageCharge_37 rfl (lv_at hl 2 rfl) ?_
            refine wy_get (ci := 3) (v := .ref (ma 3)) (C := RX2) (T := TX2) (N := 15) hx hb hts hinX2 hown hK hw.1 hq.1 rfl 6 (by decide) (hts (.fieldLink RX2 26 "WheelpayModel" "isDone" "[Z") (by decide +kernel)) (fun _ h9 => h9) rfl dX2_averageCharge_38 ?_
            refine lv_iload_n hx hb dX2_averageCharge_41 rfl (lv_at hl 0 rfl) ?_
            refine wy_zald hx hb hK hw.1 hq.2.2.2.2.1 (i) ei_i (by omega) (by omega) dX2_averageCharge_42 ?_
            rw [show g3 (i) = bI (rfi (rr i)) from (hm.1 (i) (by omega)).2.2.2.1]
            refine lv_if_eq (tgt := 64) hx hb dX2_averageCharge_43 (by decide) (fun c_16 => ?_) (fun c_16 => ?_)
            · have bc_16 : (rfi (rr i)) = false := bI_0 (rfl.symm.trans c_16)
              refine lv_iconst (v := 0) hx hb dX2_averageCharge_64 (by decide) ?_
              refine lv_iadd hx hb dX2_averageCharge_65 ?_
              refine lv_topi (fun x_17 ex_17 => ?_)
              have nx_17 : x_17 = nI (cb (fun k => rfi (rr k) && decide (0 < rch (rr k) (ix p1))) i + 0) := ex_17.trans ((congr (congrArg (fun u v : Int32 => u + v) hc_s) (rfl : (0 : Int32) = nI 0)).trans (nI_add _ _))
              refine lv_istore_n (lv' := [(2, .int x_17), (3, .int xi_i), (0, .ref om), (1, .int p1)]) hx hb dX2_averageCharge_66 rfl hl (by decide) rfl (fun ls hl => ?_)
              obtain ⟨x_18, ex_18⟩ : ∃ y : Int32, y = xi_i + 1 := ⟨_, rfl⟩
              have nx_18 : x_18 = nI (i + 1) := by rw [ex_18, ei_i, nI_1]
              refine lv_iinc (v := x_18) (lv' := [(3, .int x_18), (2, .int x_17), (0, .ref om), (1, .int p1)]) hx hb dX2_averageCharge_67 hl (k := 1) rfl (by rw [ex_18]; rfl) (by decide) rfl (fun ls hl => ?_)
              refine lv_goto (tgt := 28) hx hb dX2_averageCharge_70 (by decide) ?_
              exact ih_d (i + 1) (by omega) _ nx_18 _ (by rw [show cb (fun k => rfi (rr k) && decide (0 < rch (rr k) (ix p1))) (i + 1) = cb (fun k => rfi (rr k) && decide (0 < rch (rr k) (ix p1))) i + 0 by simp [cb, bc_3, bc_16]]; exact nx_17) _ _ _ hw hq ls (lv_sub hl [0, 1, 2, 3] rfl)
            · have bc_16 : (rfi (rr i)) = true := bI_1 (fun z => c_16 (rfl.trans z))
              refine lv_aload_n hx hb dX2_averageCharge_46 rfl (lv_at hl 2 rfl) ?_
              refine wy_get (ci := 3) (v := .ref (ma 6)) (C := RX2) (T := TX2) (N := 15) hx hb hts hinX2 hown hK hw.1 hq.1 rfl 9 (by decide) (hts (.fieldLink RX2 36 "WheelpayModel" "charge" "[I") (by decide +kernel)) (fun _ h9 => h9) rfl dX2_averageCharge_47 ?_
              refine lv_bipush (v := 10) hx hb dX2_averageCharge_50 (by decide) ?_
              refine lv_iload_n hx hb dX2_averageCharge_52 rfl (lv_at hl 0 rfl) ?_
              refine lv_imul hx hb dX2_averageCharge_53 ?_
              refine lv_topi (fun x_19 ex_19 => ?_)
              have nx_19 : x_19 = nI (10 * i) := ex_19.trans ((congr (congrArg (fun u v : Int32 => u * v) (rfl : (10 : Int32) = nI 10)) ei_i).trans (pk_mul _ _))
              refine lv_iload_n hx hb dX2_averageCharge_54 rfl (lv_at hl 3 rfl) ?_
              refine lv_iadd hx hb dX2_averageCharge_55 ?_
              refine lv_topi (fun x_20 ex_20 => ?_)
              have nx_20 : x_20 = nI (10 * i + (ix p1)) := ex_20.trans ((congr (congrArg (fun u v : Int32 => u + v) nx_19) e1).trans (nI_add _ _))
              refine wy_iald hx hb hK hw.1 hq.2.2.2.2.2.2.2.1 (10 * i + (ix p1)) nx_20 (by omega) (by omega) dX2_averageCharge_56 ?_
              rw [show g6 (10 * i + (ix p1)) = rch (rr i) ((ix p1)) from ((hm.1 i (by omega)).2.2.2.2.2 ((ix p1)) (by omega)).2.1]
              refine lv_if_le (tgt := 64) hx hb dX2_averageCharge_57 (by decide) (fun c_21 => ?_) (fun c_21 => ?_)
              · have hX : decide (0 < rch (rr i) (ix p1)) = false := decide_eq_false (Int32.not_lt.mpr c_21)
                refine lv_iconst (v := 0) hx hb dX2_averageCharge_64 (by decide) ?_
                refine lv_iadd hx hb dX2_averageCharge_65 ?_
                refine lv_topi (fun x_22 ex_22 => ?_)
                have nx_22 : x_22 = nI (cb (fun k => rfi (rr k) && decide (0 < rch (rr k) (ix p1))) i + 0) := ex_22.trans ((congr (congrArg (fun u v : Int32 => u + v) hc_s) (rfl : (0 : Int32) = nI 0)).trans (nI_add _ _))
                refine lv_istore_n (lv' := [(2, .int x_22), (3, .int xi_i), (0, .ref om), (1, .int p1)]) hx hb dX2_averageCharge_66 rfl hl (by decide) rfl (fun ls hl => ?_)
                obtain ⟨x_23, ex_23⟩ : ∃ y : Int32, y = xi_i + 1 := ⟨_, rfl⟩
                have nx_23 : x_23 = nI (i + 1) := by rw [ex_23, ei_i, nI_1]
                refine lv_iinc (v := x_23) (lv' := [(3, .int x_23), (2, .int x_22), (0, .ref om), (1, .int p1)]) hx hb dX2_averageCharge_67 hl (k := 1) rfl (by rw [ex_23]; rfl) (by decide) rfl (fun ls hl => ?_)
                refine lv_goto (tgt := 28) hx hb dX2_averageCharge_70 (by decide) ?_
                exact ih_d (i + 1) (by omega) _ nx_23 _ (by rw [show cb (fun k => rfi (rr k) && decide (0 < rch (rr k) (ix p1))) (i + 1) = cb (fun k => rfi (rr k) && decide (0 < rch (rr k) (ix p1))) i + 0 by simp [cb, bc_3, bc_16, hX]]; exact nx_22) _ _ _ hw hq ls (lv_sub hl [0, 1, 2, 3] rfl)
              · have hX : decide (0 < rch (rr i) (ix p1)) = true := decide_eq_true (Int32.not_le.mp c_21)
                refine lv_iconst (v := 1) hx hb dX2_averageCharge_60 (by decide) ?_
                refine lv_goto (tgt := 65) hx hb dX2_averageCharge_61 (by decide) ?_
                refine lv_iadd hx hb dX2_averageCharge_65 ?_
                refine lv_topi (fun x_24 ex_24 => ?_)
                have nx_24 : x_24 = nI (cb (fun k => rfi (rr k) && decide (0 < rch (rr k) (ix p1))) i + 1) := ex_24.trans ((congr (congrArg (fun u v : Int32 => u + v) hc_s) (rfl : (1 : Int32) = nI 1)).trans (nI_add _ _))
                refine lv_istore_n (lv' := [(2, .int x_24), (3, .int xi_i), (0, .ref om), (1, .int p1)]) hx hb dX2_averageCharge_66 rfl hl (by decide) rfl (fun ls hl => ?_)
                obtain ⟨x_25, ex_25⟩ : ∃ y : Int32, y = xi_i + 1 := ⟨_, rfl⟩
                have nx_25 : x_25 = nI (i + 1) := by rw [ex_25, ei_i, nI_1]
                refine lv_iinc (v := x_25) (lv' := [(3, .int x_25), (2, .int x_24), (0, .ref om), (1, .int p1)]) hx hb dX2_averageCharge_67 hl (k := 1) rfl (by rw [ex_25]; rfl) (by decide) rfl (fun ls hl => ?_)
                refine lv_goto (tgt := 28) hx hb dX2_averageCharge_70 (by decide) ?_
                exact ih_d (i + 1) (by omega) _ nx_25 _ (by rw [show cb (fun k => rfi (rr k) && decide (0 < rch (rr k) (ix p1))) (i + 1) = cb (fun k => rfi (rr k) && decide (0 < rch (rr k) (ix p1))) i + 1 by simp [cb, bc_3, bc_16, hX]]; exact nx_24) _ _ _ hw hq ls (lv_sub hl [0, 1, 2, 3] rfl)
      exact KK (n) 0 (by omega) _ rfl _ rfl _ _ _ hw hq ls (lv_sub hl [0, 1, 2, 3] rfl)
    · exact absurd rfl c_7
theorem wm_zero : wm_r (fun _ => 0) (fun _ => vNew 0 0) (fun _ => 0) (fun _ => 0) (fun _ => 0) (fun _ => 0) (fun _ => 0) (fun _ => 0) (fun _ => 0) (fun _ => 0) (fun _ => 0) (fun _ => 0) :=
  ⟨fun k hk => ⟨rfl, rfl, rfl, rfl, rfl, fun r hr => ⟨rfl, rfl, rfl, rfl⟩⟩, fun d hd => rfl⟩
/-- the reference as it begins -/
def wm_0 (G : wy_G) (om : Nat) : Option Value → List Nat → (Nat → va_E) → Prop := fun r L' f' => r = none ∧ ∃ ma g0 g1 g2 g3 g4 g5 g6 g7 g8 g9, wm_S G L' f' om ma 0 100 20 0 0 g0 g1 g2 g3 g4 g5 g6 g7 g8 g9 ∧ wm_r (fun _ => 0) (fun _ => vNew 0 0) g0 g1 g2 g3 g4 g5 g6 g7 g8 g9
set_option maxHeartbeats 4000000 in
set_option maxRecDepth 100000 in
theorem m_X2_init (l : Launch) {G : wy_G} {L : List Nat} {f : Nat → va_E} {sz : Nat} {om : Nat} (hq : wy_c L f om (.inr (3, [.int 0, .int 0, .int 0, .null, .null, .null, .null, .null, .null, .null, .null, .null, .int 0, .null, .int 0]))) : Met l yX2_init wsX2_init ({ frames := 1, cells := 10, slots := 2000, locals := 12 } : Room) (va_Pc [.ref om] (wy_W G L f sz)) (wy_Q G (wm_0 G om) (wy_A L sz)) 10 2000 (wy_A L sz) := by
  refine Met.ofW (cc := cX2_init) (maxL := 1) (ret := none) (by decide) rfl ?_
  intro p e s m args below meth c s₁ B hml hv
  obtain ⟨rfl, hv⟩ := hv
  obtain ⟨hw, hK, hA⟩ := wy_start hv
  have hsz := hv.1
  subst hsz
  have hx := B.exec
  have hb := B.bytes
  have hr := B.returns
  have hts := atoms_spec (ws := wsX2_init) B.pre
  have hown : s.vm.findClass RX2 = some m.cls := findClass_of_methodNamed B.named
  have hlocks := B.notSynchronized
  have hin : meth.name = "<init>" := (name_of_methodNamed B.named B.method).1
  have hinX2 : ∀ w ∈ wsX20, w ∈ wsX2_init := by decide +kernel
  have hl := lv_entry ([.ref om]) (n := 1) (Nat.le_of_ble_eq_true rfl)
  rw [lg_entry_eq]
  generalize (lg_sl ([.ref om]) ++ List.replicate (1 - (lg_sl ([.ref om])).length) Slot.unset).toArray = ls at hl ⊢
  have hl : lv_has ls 1 [(0, .ref om)] := hl
  refine lv_aload_n hx hb dX2_init_0 rfl (lv_at hl 0 rfl) ?_
  refine W.objInit hx hb hown (hts (.methodLink RX2 1 objectInit) (by decide +kernel)) (hts (.instanceMethod objectInit) (by decide +kernel)) (hts (.code objectInit ⟨#[0xb1]⟩ 1 none) (by decide +kernel)) rfl (by rw [hml]; exact hl.1) rfl dX2_init_1 (Nat.le_of_ble_eq_true rfl) (Nat.le_of_ble_eq_true rfl) ?_
  refine W.eq (g2 := F0 m 4 ls []) rfl ?_
  refine lv_aload_n hx hb dX2_init_4 rfl (lv_at hl 0 rfl) ?_
  refine lv_bipush (v := 100) hx hb dX2_init_5 (by decide) ?_
  refine wy_put (ci := 3) (v := .int 100) (ty := .int) (C := RX2) (T := TX2) (N := 15) hx hb hts hinX2 tyX2 tyX2_ok nmX2 hown hK hw hq rfl 0 (by decide) (hts (.fieldLink RX2 7 "WheelpayModel" "byKilometre" "I") (by decide +kernel)) (fun _ h9 => h9) rfl (by decide +kernel) rfl rfl (Nat.le_of_ble_eq_true rfl) dX2_init_7 (fun H locs f_1 hs_2 hn_3 hw => ?_)
  have hc_4 : wy_c L f_1 om (.inr (3, [.int 100, .int 0, .int 0, .null, .null, .null, .null, .null, .null, .null, .null, .null, .int 0, .null, .int 0])) := hs_2
  refine lv_aload_n hx hb dX2_init_10 rfl (lv_at hl 0 rfl) ?_
  refine lv_bipush (v := 20) hx hb dX2_init_11 (by decide) ?_
  refine wy_put (ci := 3) (v := .int 20) (ty := .int) (C := RX2) (T := TX2) (N := 15) hx hb hts hinX2 tyX2 tyX2_ok nmX2 hown hK hw hc_4 rfl 1 (by decide) (hts (.fieldLink RX2 13 "WheelpayModel" "byMinute" "I") (by decide +kernel)) (fun _ h9 => h9) rfl (by decide +kernel) rfl rfl (Nat.le_of_ble_eq_true rfl) dX2_init_13 (fun H locs f_5 hs_6 hn_7 hw => ?_)
  have hc_8 : wy_c L f_5 om (.inr (3, [.int 100, .int 20, .int 0, .null, .null, .null, .null, .null, .null, .null, .null, .null, .int 0, .null, .int 0])) := hs_6
  refine lv_aload_n hx hb dX2_init_16 rfl (lv_at hl 0 rfl) ?_
  refine lv_bipush (v := 40) hx hb dX2_init_17 (by decide) ?_
  refine wy_newI hx hb (hts (.arrayClass .int) (by decide +kernel)) hK hw hA 40 rfl (by decide) (Nat.le_of_ble_eq_true rfl) (Nat.le_of_ble_eq_true rfl) dX2_init_19 (fun q0 H fq0 hfr0 hcq0 hnq0 hw => ?_)
  have hc_9 := wy_c.app2 hc_8 hfr0 hnq0
  have ne_om_0 := wy_c.neq hc_8 hfr0
  refine wy_putF (ci := 3) (v := .ref q0) (ty := .array .int) (C := RX2) (T := TX2) (N := 15) hx hb hts hinX2 tyX2 tyX2_ok nmX2 hown hK hw hc_9 rfl 3 (by decide) (hts (.fieldLink RX2 16 "WheelpayModel" "driver" "[I") (by decide +kernel)) (fun _ h9 => h9) rfl hin rfl (by decide +kernel) rfl rfl (Nat.le_of_ble_eq_true rfl) dX2_init_21 (fun H locs f_10 hs_11 hn_12 hw => ?_)
  have hc_13 := wy_c.ne2 hcq0 hn_12 ne_om_0.symm
  have hc_14 : wy_c (L ++ [q0]) f_10 om (.inr (3, [.int 100, .int 20, .int 0, .ref q0, .null, .null, .null, .null, .null, .null, .null, .null, .int 0, .null, .int 0])) := hs_11
  refine lv_aload_n hx hb dX2_init_24 rfl (lv_at hl 0 rfl) ?_
  refine lv_bipush (v := 40) hx hb dX2_init_25 (by decide) ?_
  refine wy_newI hx hb (hts (.arrayClass .int) (by decide +kernel)) hK hw hA 40 rfl (by decide) (Nat.le_of_ble_eq_true rfl) (Nat.le_of_ble_eq_true rfl) dX2_init_27 (fun q1 H fq1 hfr1 hcq1 hnq1 hw => ?_)
  have hc_15 := wy_c.app2 hc_14 hfr1 hnq1
  have ne_om_1 := wy_c.neq hc_14 hfr1
  have hc_16 := wy_c.app2 hc_13 hfr1 hnq1
  have ne_q0_1 := wy_c.neq hc_13 hfr1
  refine wy_putF (ci := 3) (v := .ref q1) (ty := .array .int) (C := RX2) (T := TX2) (N := 15) hx hb hts hinX2 tyX2 tyX2_ok nmX2 hown hK hw hc_15 rfl 4 (by decide) (hts (.fieldLink RX2 20 "WheelpayModel" "weekOf" "[I") (by decide +kernel)) (fun _ h9 => h9) rfl hin rfl (by decide +kernel) rfl rfl (Nat.le_of_ble_eq_true rfl) dX2_init_29 (fun H locs f_17 hs_18 hn_19 hw => ?_)
  have hc_20 := wy_c.ne2 hc_16 hn_19 ne_om_0.symm
  have hc_21 := wy_c.ne2 hcq1 hn_19 ne_om_1.symm
  have hc_22 : wy_c ((L ++ [q0]) ++ [q1]) f_17 om (.inr (3, [.int 100, .int 20, .int 0, .ref q0, .ref q1, .null, .null, .null, .null, .null, .null, .null, .int 0, .null, .int 0])) := hs_18
  refine lv_aload_n hx hb dX2_init_32 rfl (lv_at hl 0 rfl) ?_
  refine lv_bipush (v := 40) hx hb dX2_init_33 (by decide) ?_
  refine wy_newI hx hb (hts (.arrayClass .int) (by decide +kernel)) hK hw hA 40 rfl (by decide) (Nat.le_of_ble_eq_true rfl) (Nat.le_of_ble_eq_true rfl) dX2_init_35 (fun q2 H fq2 hfr2 hcq2 hnq2 hw => ?_)
  have hc_23 := wy_c.app2 hc_22 hfr2 hnq2
  have ne_om_2 := wy_c.neq hc_22 hfr2
  have hc_24 := wy_c.app2 hc_20 hfr2 hnq2
  have ne_q0_2 := wy_c.neq hc_20 hfr2
  have hc_25 := wy_c.app2 hc_21 hfr2 hnq2
  have ne_q1_2 := wy_c.neq hc_21 hfr2
  refine wy_putF (ci := 3) (v := .ref q2) (ty := .array .int) (C := RX2) (T := TX2) (N := 15) hx hb hts hinX2 tyX2 tyX2_ok nmX2 hown hK hw hc_23 rfl 5 (by decide) (hts (.fieldLink RX2 23 "WheelpayModel" "minutes" "[I") (by decide +kernel)) (fun _ h9 => h9) rfl hin rfl (by decide +kernel) rfl rfl (Nat.le_of_ble_eq_true rfl) dX2_init_37 (fun H locs f_26 hs_27 hn_28 hw => ?_)
  have hc_29 := wy_c.ne2 hc_24 hn_28 ne_om_0.symm
  have hc_30 := wy_c.ne2 hc_25 hn_28 ne_om_1.symm
  have hc_31 := wy_c.ne2 hcq2 hn_28 ne_om_2.symm
  have hc_32 : wy_c (((L ++ [q0]) ++ [q1]) ++ [q2]) f_26 om (.inr (3, [.int 100, .int 20, .int 0, .ref q0, .ref q1, .ref q2, .null, .null, .null, .null, .null, .null, .int 0, .null, .int 0])) := hs_27
  refine lv_aload_n hx hb dX2_init_40 rfl (lv_at hl 0 rfl) ?_
  refine lv_bipush (v := 40) hx hb dX2_init_41 (by decide) ?_
  refine wy_newZ hx hb (hts (.arrayClass .boolean) (by decide +kernel)) hK hw hA 40 rfl (by decide) (Nat.le_of_ble_eq_true rfl) (Nat.le_of_ble_eq_true rfl) dX2_init_43 (fun q3 H fq3 hfr3 hcq3 hnq3 hw => ?_)
  have hc_33 := wy_c.app2 hc_32 hfr3 hnq3
  have ne_om_3 := wy_c.neq hc_32 hfr3
  have hc_34 := wy_c.app2 hc_29 hfr3 hnq3
  have ne_q0_3 := wy_c.neq hc_29 hfr3
  have hc_35 := wy_c.app2 hc_30 hfr3 hnq3
  have ne_q1_3 := wy_c.neq hc_30 hfr3
  have hc_36 := wy_c.app2 hc_31 hfr3 hnq3
  have ne_q2_3 := wy_c.neq hc_31 hfr3
  refine wy_putF (ci := 3) (v := .ref q3) (ty := .array .boolean) (C := RX2) (T := TX2) (N := 15) hx hb hts hinX2 tyX2 tyX2_ok nmX2 hown hK hw hc_33 rfl 6 (by decide) (hts (.fieldLink RX2 26 "WheelpayModel" "isDone" "[Z") (by decide +kernel)) (fun _ h9 => h9) rfl hin rfl (by decide +kernel) rfl rfl (Nat.le_of_ble_eq_true rfl) dX2_init_45 (fun H locs f_37 hs_38 hn_39 hw => ?_)
  have hc_40 := wy_c.ne2 hc_34 hn_39 ne_om_0.symm
  have hc_41 := wy_c.ne2 hc_35 hn_39 ne_om_1.symm
  have hc_42 := wy_c.ne2 hc_36 hn_39 ne_om_2.symm
  have hc_43 := wy_c.ne2 hcq3 hn_39 ne_om_3.symm
  have hc_44 : wy_c ((((L ++ [q0]) ++ [q1]) ++ [q2]) ++ [q3]) f_37 om (.inr (3, [.int 100, .int 20, .int 0, .ref q0, .ref q1, .ref q2, .ref q3, .null, .null, .null, .null, .null, .int 0, .null, .int 0])) := hs_38
  refine lv_aload_n hx hb dX2_init_48 rfl (lv_at hl 0 rfl) ?_
  refine lv_bipush (v := 40) hx hb dX2_init_49 (by decide) ?_
  refine wy_newZ hx hb (hts (.arrayClass .boolean) (by decide +kernel)) hK hw hA 40 rfl (by decide) (Nat.le_of_ble_eq_true rfl) (Nat.le_of_ble_eq_true rfl) dX2_init_51 (fun q4 H fq4 hfr4 hcq4 hnq4 hw => ?_)
  have hc_45 := wy_c.app2 hc_44 hfr4 hnq4
  have ne_om_4 := wy_c.neq hc_44 hfr4
  have hc_46 := wy_c.app2 hc_40 hfr4 hnq4
  have ne_q0_4 := wy_c.neq hc_40 hfr4
  have hc_47 := wy_c.app2 hc_41 hfr4 hnq4
  have ne_q1_4 := wy_c.neq hc_41 hfr4
  have hc_48 := wy_c.app2 hc_42 hfr4 hnq4
  have ne_q2_4 := wy_c.neq hc_42 hfr4
  have hc_49 := wy_c.app2 hc_43 hfr4 hnq4
  have ne_q3_4 := wy_c.neq hc_43 hfr4
  refine wy_putF (ci := 3) (v := .ref q4) (ty := .array .boolean) (C := RX2) (T := TX2) (N := 15) hx hb hts hinX2 tyX2 tyX2_ok nmX2 hown hK hw hc_45 rfl 7 (by decide) (hts (.fieldLink RX2 30 "WheelpayModel" "hasDriven" "[Z") (by decide +kernel)) (fun _ h9 => h9) rfl hin rfl (by decide +kernel) rfl rfl (Nat.le_of_ble_eq_true rfl) dX2_init_53 (fun H locs f_50 hs_51 hn_52 hw => ?_)
  have hc_53 := wy_c.ne2 hc_46 hn_52 ne_om_0.symm
  have hc_54 := wy_c.ne2 hc_47 hn_52 ne_om_1.symm
  have hc_55 := wy_c.ne2 hc_48 hn_52 ne_om_2.symm
  have hc_56 := wy_c.ne2 hc_49 hn_52 ne_om_3.symm
  have hc_57 := wy_c.ne2 hcq4 hn_52 ne_om_4.symm
  have hc_58 : wy_c (((((L ++ [q0]) ++ [q1]) ++ [q2]) ++ [q3]) ++ [q4]) f_50 om (.inr (3, [.int 100, .int 20, .int 0, .ref q0, .ref q1, .ref q2, .ref q3, .ref q4, .null, .null, .null, .null, .int 0, .null, .int 0])) := hs_51
  refine lv_aload_n hx hb dX2_init_56 rfl (lv_at hl 0 rfl) ?_
  refine lv_sipush (v := 400) hx hb dX2_init_57 (by decide) ?_
  refine wy_newI hx hb (hts (.arrayClass .int) (by decide +kernel)) hK hw hA 400 rfl (by decide) (Nat.le_of_ble_eq_true rfl) (Nat.le_of_ble_eq_true rfl) dX2_init_60 (fun q5 H fq5 hfr5 hcq5 hnq5 hw => ?_)
  have hc_59 := wy_c.app2 hc_58 hfr5 hnq5
  have ne_om_5 := wy_c.neq hc_58 hfr5
  have hc_60 := wy_c.app2 hc_53 hfr5 hnq5
  have ne_q0_5 := wy_c.neq hc_53 hfr5
  have hc_61 := wy_c.app2 hc_54 hfr5 hnq5
  have ne_q1_5 := wy_c.neq hc_54 hfr5
  have hc_62 := wy_c.app2 hc_55 hfr5 hnq5
  have ne_q2_5 := wy_c.neq hc_55 hfr5
  have hc_63 := wy_c.app2 hc_56 hfr5 hnq5
  have ne_q3_5 := wy_c.neq hc_56 hfr5
  have hc_64 := wy_c.app2 hc_57 hfr5 hnq5
  have ne_q4_5 := wy_c.neq hc_57 hfr5
  refine wy_putF (ci := 3) (v := .ref q5) (ty := .array .int) (C := RX2) (T := TX2) (N := 15) hx hb hts hinX2 tyX2 tyX2_ok nmX2 hown hK hw hc_59 rfl 8 (by decide) (hts (.fieldLink RX2 33 "WheelpayModel" "state" "[I") (by decide +kernel)) (fun _ h9 => h9) rfl hin rfl (by decide +kernel) rfl rfl (Nat.le_of_ble_eq_true rfl) dX2_init_62 (fun H locs f_65 hs_66 hn_67 hw => ?_)
  have hc_68 := wy_c.ne2 hc_60 hn_67 ne_om_0.symm
  have hc_69 := wy_c.ne2 hc_61 hn_67 ne_om_1.symm
  have hc_70 := wy_c.ne2 hc_62 hn_67 ne_om_2.symm
  have hc_71 := wy_c.ne2 hc_63 hn_67 ne_om_3.symm
  have hc_72 := wy_c.ne2 hc_64 hn_67 ne_om_4.symm
  have hc_73 := wy_c.ne2 hcq5 hn_67 ne_om_5.symm
  have hc_74 : wy_c ((((((L ++ [q0]) ++ [q1]) ++ [q2]) ++ [q3]) ++ [q4]) ++ [q5]) f_65 om (.inr (3, [.int 100, .int 20, .int 0, .ref q0, .ref q1, .ref q2, .ref q3, .ref q4, .ref q5, .null, .null, .null, .int 0, .null, .int 0])) := hs_66
  refine lv_aload_n hx hb dX2_init_65 rfl (lv_at hl 0 rfl) ?_
  refine lv_sipush (v := 400) hx hb dX2_init_66 (by decide) ?_
  refine wy_newI hx hb (hts (.arrayClass .int) (by decide +kernel)) hK hw hA 400 rfl (by decide) (Nat.le_of_ble_eq_true rfl) (Nat.le_of_ble_eq_true rfl) dX2_init_69 (fun q6 H fq6 hfr6 hcq6 hnq6 hw => ?_)
  have hc_75 := wy_c.app2 hc_74 hfr6 hnq6
  have ne_om_6 := wy_c.neq hc_74 hfr6
  have hc_76 := wy_c.app2 hc_68 hfr6 hnq6
  have ne_q0_6 := wy_c.neq hc_68 hfr6
  have hc_77 := wy_c.app2 hc_69 hfr6 hnq6
  have ne_q1_6 := wy_c.neq hc_69 hfr6
  have hc_78 := wy_c.app2 hc_70 hfr6 hnq6
  have ne_q2_6 := wy_c.neq hc_70 hfr6
  have hc_79 := wy_c.app2 hc_71 hfr6 hnq6
  have ne_q3_6 := wy_c.neq hc_71 hfr6
  have hc_80 := wy_c.app2 hc_72 hfr6 hnq6
  have ne_q4_6 := wy_c.neq hc_72 hfr6
  have hc_81 := wy_c.app2 hc_73 hfr6 hnq6
  have ne_q5_6 := wy_c.neq hc_73 hfr6
  refine wy_putF (ci := 3) (v := .ref q6) (ty := .array .int) (C := RX2) (T := TX2) (N := 15) hx hb hts hinX2 tyX2 tyX2_ok nmX2 hown hK hw hc_75 rfl 9 (by decide) (hts (.fieldLink RX2 36 "WheelpayModel" "charge" "[I") (by decide +kernel)) (fun _ h9 => h9) rfl hin rfl (by decide +kernel) rfl rfl (Nat.le_of_ble_eq_true rfl) dX2_init_71 (fun H locs f_82 hs_83 hn_84 hw => ?_)
  have hc_85 := wy_c.ne2 hc_76 hn_84 ne_om_0.symm
  have hc_86 := wy_c.ne2 hc_77 hn_84 ne_om_1.symm
  have hc_87 := wy_c.ne2 hc_78 hn_84 ne_om_2.symm
  have hc_88 := wy_c.ne2 hc_79 hn_84 ne_om_3.symm
  have hc_89 := wy_c.ne2 hc_80 hn_84 ne_om_4.symm
  have hc_90 := wy_c.ne2 hc_81 hn_84 ne_om_5.symm
  have hc_91 := wy_c.ne2 hcq6 hn_84 ne_om_6.symm
  have hc_92 : wy_c (((((((L ++ [q0]) ++ [q1]) ++ [q2]) ++ [q3]) ++ [q4]) ++ [q5]) ++ [q6]) f_82 om (.inr (3, [.int 100, .int 20, .int 0, .ref q0, .ref q1, .ref q2, .ref q3, .ref q4, .ref q5, .ref q6, .null, .null, .int 0, .null, .int 0])) := hs_83
  refine lv_aload_n hx hb dX2_init_74 rfl (lv_at hl 0 rfl) ?_
  refine lv_sipush (v := 400) hx hb dX2_init_75 (by decide) ?_
  refine wy_newI hx hb (hts (.arrayClass .int) (by decide +kernel)) hK hw hA 400 rfl (by decide) (Nat.le_of_ble_eq_true rfl) (Nat.le_of_ble_eq_true rfl) dX2_init_78 (fun q7 H fq7 hfr7 hcq7 hnq7 hw => ?_)
  have hc_93 := wy_c.app2 hc_92 hfr7 hnq7
  have ne_om_7 := wy_c.neq hc_92 hfr7
  have hc_94 := wy_c.app2 hc_85 hfr7 hnq7
  have ne_q0_7 := wy_c.neq hc_85 hfr7
  have hc_95 := wy_c.app2 hc_86 hfr7 hnq7
  have ne_q1_7 := wy_c.neq hc_86 hfr7
  have hc_96 := wy_c.app2 hc_87 hfr7 hnq7
  have ne_q2_7 := wy_c.neq hc_87 hfr7
  have hc_97 := wy_c.app2 hc_88 hfr7 hnq7
  have ne_q3_7 := wy_c.neq hc_88 hfr7
  have hc_98 := wy_c.app2 hc_89 hfr7 hnq7
  have ne_q4_7 := wy_c.neq hc_89 hfr7
  have hc_99 := wy_c.app2 hc_90 hfr7 hnq7
  have ne_q5_7 := wy_c.neq hc_90 hfr7
  have hc_100 := wy_c.app2 hc_91 hfr7 hnq7
  have ne_q6_7 := wy_c.neq hc_91 hfr7
  refine wy_putF (ci := 3) (v := .ref q7) (ty := .array .int) (C := RX2) (T := TX2) (N := 15) hx hb hts hinX2 tyX2 tyX2_ok nmX2 hown hK hw hc_93 rfl 10 (by decide) (hts (.fieldLink RX2 39 "WheelpayModel" "dispute" "[I") (by decide +kernel)) (fun _ h9 => h9) rfl hin rfl (by decide +kernel) rfl rfl (Nat.le_of_ble_eq_true rfl) dX2_init_80 (fun H locs f_101 hs_102 hn_103 hw => ?_)
  have hc_104 := wy_c.ne2 hc_94 hn_103 ne_om_0.symm
  have hc_105 := wy_c.ne2 hc_95 hn_103 ne_om_1.symm
  have hc_106 := wy_c.ne2 hc_96 hn_103 ne_om_2.symm
  have hc_107 := wy_c.ne2 hc_97 hn_103 ne_om_3.symm
  have hc_108 := wy_c.ne2 hc_98 hn_103 ne_om_4.symm
  have hc_109 := wy_c.ne2 hc_99 hn_103 ne_om_5.symm
  have hc_110 := wy_c.ne2 hc_100 hn_103 ne_om_6.symm
  have hc_111 := wy_c.ne2 hcq7 hn_103 ne_om_7.symm
  have hc_112 : wy_c ((((((((L ++ [q0]) ++ [q1]) ++ [q2]) ++ [q3]) ++ [q4]) ++ [q5]) ++ [q6]) ++ [q7]) f_101 om (.inr (3, [.int 100, .int 20, .int 0, .ref q0, .ref q1, .ref q2, .ref q3, .ref q4, .ref q5, .ref q6, .ref q7, .null, .int 0, .null, .int 0])) := hs_102
  refine lv_aload_n hx hb dX2_init_83 rfl (lv_at hl 0 rfl) ?_
  refine lv_sipush (v := 400) hx hb dX2_init_84 (by decide) ?_
  refine wy_newI hx hb (hts (.arrayClass .int) (by decide +kernel)) hK hw hA 400 rfl (by decide) (Nat.le_of_ble_eq_true rfl) (Nat.le_of_ble_eq_true rfl) dX2_init_87 (fun q8 H fq8 hfr8 hcq8 hnq8 hw => ?_)
  have hc_113 := wy_c.app2 hc_112 hfr8 hnq8
  have ne_om_8 := wy_c.neq hc_112 hfr8
  have hc_114 := wy_c.app2 hc_104 hfr8 hnq8
  have ne_q0_8 := wy_c.neq hc_104 hfr8
  have hc_115 := wy_c.app2 hc_105 hfr8 hnq8
  have ne_q1_8 := wy_c.neq hc_105 hfr8
  have hc_116 := wy_c.app2 hc_106 hfr8 hnq8
  have ne_q2_8 := wy_c.neq hc_106 hfr8
  have hc_117 := wy_c.app2 hc_107 hfr8 hnq8
  have ne_q3_8 := wy_c.neq hc_107 hfr8
  have hc_118 := wy_c.app2 hc_108 hfr8 hnq8
  have ne_q4_8 := wy_c.neq hc_108 hfr8
  have hc_119 := wy_c.app2 hc_109 hfr8 hnq8
  have ne_q5_8 := wy_c.neq hc_109 hfr8
  have hc_120 := wy_c.app2 hc_110 hfr8 hnq8
  have ne_q6_8 := wy_c.neq hc_110 hfr8
  have hc_121 := wy_c.app2 hc_111 hfr8 hnq8
  have ne_q7_8 := wy_c.neq hc_111 hfr8
  refine wy_putF (ci := 3) (v := .ref q8) (ty := .array .int) (C := RX2) (T := TX2) (N := 15) hx hb hts hinX2 tyX2 tyX2_ok nmX2 hown hK hw hc_113 rfl 11 (by decide) (hts (.fieldLink RX2 42 "WheelpayModel" "refund" "[I") (by decide +kernel)) (fun _ h9 => h9) rfl hin rfl (by decide +kernel) rfl rfl (Nat.le_of_ble_eq_true rfl) dX2_init_89 (fun H locs f_122 hs_123 hn_124 hw => ?_)
  have hc_125 := wy_c.ne2 hc_114 hn_124 ne_om_0.symm
  have hc_126 := wy_c.ne2 hc_115 hn_124 ne_om_1.symm
  have hc_127 := wy_c.ne2 hc_116 hn_124 ne_om_2.symm
  have hc_128 := wy_c.ne2 hc_117 hn_124 ne_om_3.symm
  have hc_129 := wy_c.ne2 hc_118 hn_124 ne_om_4.symm
  have hc_130 := wy_c.ne2 hc_119 hn_124 ne_om_5.symm
  have hc_131 := wy_c.ne2 hc_120 hn_124 ne_om_6.symm
  have hc_132 := wy_c.ne2 hc_121 hn_124 ne_om_7.symm
  have hc_133 := wy_c.ne2 hcq8 hn_124 ne_om_8.symm
  have hc_134 : wy_c (((((((((L ++ [q0]) ++ [q1]) ++ [q2]) ++ [q3]) ++ [q4]) ++ [q5]) ++ [q6]) ++ [q7]) ++ [q8]) f_122 om (.inr (3, [.int 100, .int 20, .int 0, .ref q0, .ref q1, .ref q2, .ref q3, .ref q4, .ref q5, .ref q6, .ref q7, .ref q8, .int 0, .null, .int 0])) := hs_123
  refine lv_aload_n hx hb dX2_init_92 rfl (lv_at hl 0 rfl) ?_
  refine lv_iconst (v := 5) hx hb dX2_init_93 (by decide) ?_
  refine wy_newI hx hb (hts (.arrayClass .int) (by decide +kernel)) hK hw hA 5 rfl (by decide) (Nat.le_of_ble_eq_true rfl) (Nat.le_of_ble_eq_true rfl) dX2_init_94 (fun q9 H fq9 hfr9 hcq9 hnq9 hw => ?_)
  have hc_135 := wy_c.app2 hc_134 hfr9 hnq9
  have ne_om_9 := wy_c.neq hc_134 hfr9
  have hc_136 := wy_c.app2 hc_125 hfr9 hnq9
  have ne_q0_9 := wy_c.neq hc_125 hfr9
  have hc_137 := wy_c.app2 hc_126 hfr9 hnq9
  have ne_q1_9 := wy_c.neq hc_126 hfr9
  have hc_138 := wy_c.app2 hc_127 hfr9 hnq9
  have ne_q2_9 := wy_c.neq hc_127 hfr9
  have hc_139 := wy_c.app2 hc_128 hfr9 hnq9
  have ne_q3_9 := wy_c.neq hc_128 hfr9
  have hc_140 := wy_c.app2 hc_129 hfr9 hnq9
  have ne_q4_9 := wy_c.neq hc_129 hfr9
  have hc_141 := wy_c.app2 hc_130 hfr9 hnq9
  have ne_q5_9 := wy_c.neq hc_130 hfr9
  have hc_142 := wy_c.app2 hc_131 hfr9 hnq9
  have ne_q6_9 := wy_c.neq hc_131 hfr9
  have hc_143 := wy_c.app2 hc_132 hfr9 hnq9
  have ne_q7_9 := wy_c.neq hc_132 hfr9
  have hc_144 := wy_c.app2 hc_133 hfr9 hnq9
  have ne_q8_9 := wy_c.neq hc_133 hfr9
  refine wy_putF (ci := 3) (v := .ref q9) (ty := .array .int) (C := RX2) (T := TX2) (N := 15) hx hb hts hinX2 tyX2 tyX2_ok nmX2 hown hK hw hc_135 rfl 13 (by decide) (hts (.fieldLink RX2 45 "WheelpayModel" "paid" "[I") (by decide +kernel)) (fun _ h9 => h9) rfl hin rfl (by decide +kernel) rfl rfl (Nat.le_of_ble_eq_true rfl) dX2_init_96 (fun H locs f_145 hs_146 hn_147 hw => ?_)
  have hc_148 := wy_c.ne2 hc_136 hn_147 ne_om_0.symm
  have hc_149 := wy_c.ne2 hc_137 hn_147 ne_om_1.symm
  have hc_150 := wy_c.ne2 hc_138 hn_147 ne_om_2.symm
  have hc_151 := wy_c.ne2 hc_139 hn_147 ne_om_3.symm
  have hc_152 := wy_c.ne2 hc_140 hn_147 ne_om_4.symm
  have hc_153 := wy_c.ne2 hc_141 hn_147 ne_om_5.symm
  have hc_154 := wy_c.ne2 hc_142 hn_147 ne_om_6.symm
  have hc_155 := wy_c.ne2 hc_143 hn_147 ne_om_7.symm
  have hc_156 := wy_c.ne2 hc_144 hn_147 ne_om_8.symm
  have hc_157 := wy_c.ne2 hcq9 hn_147 ne_om_9.symm
  have hc_158 : wy_c ((((((((((L ++ [q0]) ++ [q1]) ++ [q2]) ++ [q3]) ++ [q4]) ++ [q5]) ++ [q6]) ++ [q7]) ++ [q8]) ++ [q9]) f_145 om (.inr (3, [.int 100, .int 20, .int 0, .ref q0, .ref q1, .ref q2, .ref q3, .ref q4, .ref q5, .ref q6, .ref q7, .ref q8, .int 0, .ref q9, .int 0])) := hs_146
  have hd1 : ∀ i, i < 10 → om ≠ (fun i => match i with | 0 => q0 | 1 => q1 | 2 => q2 | 3 => q3 | 4 => q4 | 5 => q5 | 6 => q6 | 7 => q7 | 8 => q8 | _ => q9 : Nat → Nat) i := fun i hi => match i, hi with | 0, _ => ne_om_0 | 1, _ => ne_om_1 | 2, _ => ne_om_2 | 3, _ => ne_om_3 | 4, _ => ne_om_4 | 5, _ => ne_om_5 | 6, _ => ne_om_6 | 7, _ => ne_om_7 | 8, _ => ne_om_8 | 9, _ => ne_om_9 | (k + 10), h => absurd h (by omega)
  have hd2 : ∀ i j, i < 10 → j < 10 → i ≠ j → (fun i => match i with | 0 => q0 | 1 => q1 | 2 => q2 | 3 => q3 | 4 => q4 | 5 => q5 | 6 => q6 | 7 => q7 | 8 => q8 | _ => q9 : Nat → Nat) i ≠ (fun i => match i with | 0 => q0 | 1 => q1 | 2 => q2 | 3 => q3 | 4 => q4 | 5 => q5 | 6 => q6 | 7 => q7 | 8 => q8 | _ => q9 : Nat → Nat) j := fun i j hi hj hn => match i, j, hi, hj, hn with | 0, 0, _, _, hn => absurd rfl hn | 0, 1, _, _, hn => ne_q0_1 | 0, 2, _, _, hn => ne_q0_2 | 0, 3, _, _, hn => ne_q0_3 | 0, 4, _, _, hn => ne_q0_4 | 0, 5, _, _, hn => ne_q0_5 | 0, 6, _, _, hn => ne_q0_6 | 0, 7, _, _, hn => ne_q0_7 | 0, 8, _, _, hn => ne_q0_8 | 0, 9, _, _, hn => ne_q0_9 | 1, 0, _, _, hn => ne_q0_1.symm | 1, 1, _, _, hn => absurd rfl hn | 1, 2, _, _, hn => ne_q1_2 | 1, 3, _, _, hn => ne_q1_3 | 1, 4, _, _, hn => ne_q1_4 | 1, 5, _, _, hn => ne_q1_5 | 1, 6, _, _, hn => ne_q1_6 | 1, 7, _, _, hn => ne_q1_7 | 1, 8, _, _, hn => ne_q1_8 | 1, 9, _, _, hn => ne_q1_9 | 2, 0, _, _, hn => ne_q0_2.symm | 2, 1, _, _, hn => ne_q1_2.symm | 2, 2, _, _, hn => absurd rfl hn | 2, 3, _, _, hn => ne_q2_3 | 2, 4, _, _, hn => ne_q2_4 | 2, 5, _, _, hn => ne_q2_5 | 2, 6, _, _, hn => ne_q2_6 | 2, 7, _, _, hn => ne_q2_7 | 2, 8, _, _, hn => ne_q2_8 | 2, 9, _, _, hn => ne_q2_9 | 3, 0, _, _, hn => ne_q0_3.symm | 3, 1, _, _, hn => ne_q1_3.symm | 3, 2, _, _, hn => ne_q2_3.symm | 3, 3, _, _, hn => absurd rfl hn | 3, 4, _, _, hn => ne_q3_4 | 3, 5, _, _, hn => ne_q3_5 | 3, 6, _, _, hn => ne_q3_6 | 3, 7, _, _, hn => ne_q3_7 | 3, 8, _, _, hn => ne_q3_8 | 3, 9, _, _, hn => ne_q3_9 | 4, 0, _, _, hn => ne_q0_4.symm | 4, 1, _, _, hn => ne_q1_4.symm | 4, 2, _, _, hn => ne_q2_4.symm | 4, 3, _, _, hn => ne_q3_4.symm | 4, 4, _, _, hn => absurd rfl hn | 4, 5, _, _, hn => ne_q4_5 | 4, 6, _, _, hn => ne_q4_6 | 4, 7, _, _, hn => ne_q4_7 | 4, 8, _, _, hn => ne_q4_8 | 4, 9, _, _, hn => ne_q4_9 | 5, 0, _, _, hn => ne_q0_5.symm | 5, 1, _, _, hn => ne_q1_5.symm | 5, 2, _, _, hn => ne_q2_5.symm | 5, 3, _, _, hn => ne_q3_5.symm | 5, 4, _, _, hn => ne_q4_5.symm | 5, 5, _, _, hn => absurd rfl hn | 5, 6, _, _, hn => ne_q5_6 | 5, 7, _, _, hn => ne_q5_7 | 5, 8, _, _, hn => ne_q5_8 | 5, 9, _, _, hn => ne_q5_9 | 6, 0, _, _, hn => ne_q0_6.symm | 6, 1, _, _, hn => ne_q1_6.symm | 6, 2, _, _, hn => ne_q2_6.symm | 6, 3, _, _, hn => ne_q3_6.symm | 6, 4, _, _, hn => ne_q4_6.symm | 6, 5, _, _, hn => ne_q5_6.symm | 6, 6, _, _, hn => absurd rfl hn | 6, 7, _, _, hn => ne_q6_7 | 6, 8, _, _, hn => ne_q6_8 | 6, 9, _, _, hn => ne_q6_9 | 7, 0, _, _, hn => ne_q0_7.symm | 7, 1, _, _, hn => ne_q1_7.symm | 7, 2, _, _, hn => ne_q2_7.symm | 7, 3, _, _, hn => ne_q3_7.symm | 7, 4, _, _, hn => ne_q4_7.symm | 7, 5, _, _, hn => ne_q5_7.symm | 7, 6, _, _, hn => ne_q6_7.symm | 7, 7, _, _, hn => absurd rfl hn | 7, 8, _, _, hn => ne_q7_8 | 7, 9, _, _, hn => ne_q7_9 | 8, 0, _, _, hn => ne_q0_8.symm | 8, 1, _, _, hn => ne_q1_8.symm | 8, 2, _, _, hn => ne_q2_8.symm | 8, 3, _, _, hn => ne_q3_8.symm | 8, 4, _, _, hn => ne_q4_8.symm | 8, 5, _, _, hn => ne_q5_8.symm | 8, 6, _, _, hn => ne_q6_8.symm | 8, 7, _, _, hn => ne_q7_8.symm | 8, 8, _, _, hn => absurd rfl hn | 8, 9, _, _, hn => ne_q8_9 | 9, 0, _, _, hn => ne_q0_9.symm | 9, 1, _, _, hn => ne_q1_9.symm | 9, 2, _, _, hn => ne_q2_9.symm | 9, 3, _, _, hn => ne_q3_9.symm | 9, 4, _, _, hn => ne_q4_9.symm | 9, 5, _, _, hn => ne_q5_9.symm | 9, 6, _, _, hn => ne_q6_9.symm | 9, 7, _, _, hn => ne_q7_9.symm | 9, 8, _, _, hn => ne_q8_9.symm | 9, 9, _, _, hn => absurd rfl hn | (k + 10), _, h, _, _ => absurd h (by omega) | _, (k + 10), _, h, _ => absurd h (by omega)
  exact wy_vW hx hb hr hlocks dX2_init_99 hw (Nat.le_of_ble_eq_true rfl) (Nat.le_of_ble_eq_true rfl) ⟨rfl, (fun i => match i with | 0 => q0 | 1 => q1 | 2 => q2 | 3 => q3 | 4 => q4 | 5 => q5 | 6 => q6 | 7 => q7 | 8 => q8 | _ => q9), _, _, _, _, _, _, _, _, _, _, ⟨hc_158, hc_148, hc_149, hc_150, hc_151, hc_152, hc_153, hc_154, hc_155, hc_156, hc_157, hd1, hd2, by decide, by decide⟩, wm_zero⟩
