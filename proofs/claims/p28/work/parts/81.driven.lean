set_option maxHeartbeats 4000000 in
set_option maxRecDepth 100000 in
theorem m_L_isDriven (l : Launch) (hnt : l.stackTraces = false) {G : wy_G} {L0 La : List Nat} {f0 fa : Nat → va_E} {sz : Nat} {ox lo : Nat} {ra ar : Nat → Nat} {t n : Nat} {km mn : Int32} {wk : Nat} {po : Nat → Int32} {rr : Nat → wr_V} {ad av ao af ag : Nat} {d v o fr g : Nat → Int32} (hq : wx_S G L0 f0 ox lo ra ar n km mn wk po rr) (hR : wR G La fa ad av ao af ag d v o fr g) (hJ : wJ t n km mn wk po rr) (hB : wB n km mn wk rr d v o fr g) (ht : t ≤ 80) (p3 p4 p5 : Int32) (k a b : Nat) (hk : k ≤ n) (ha : a ≤ 101) (hb1 : b ≤ 121) (e3 : p3 = nI k) (e4 : p4 = nI a) (e5 : p5 = nI b) : Met l yL_isDriven wsL_isDriven ({ frames := 9, cells := 5, slots := 34, locals := 154 } : Room) (va_Pc [.ref ox, .ref ad, .ref ag, .int p3, .int p4, .int p5] (wq_P G L0 f0 La fa sz)) (wq_Q G L0 La sz (fun r1 L1 f1 fa1 => r1 = .int (bI true) ∧ wZ G ox lo ad av ao af ag La (t + 1) L1 f1 fa1)) 5 34 (wy_A (L0 ++ La) sz) := by
  refine Met.ofW (cc := cL_isDriven) (maxL := 17) (ret := (some .boolean)) (by decide) rfl ?_
  intro p e s m args below meth c s₁ B hml hv
  obtain ⟨rfl, hP⟩ := hv
  obtain ⟨hw, hK, hA⟩ := wq_start hP
  obtain ⟨hv, -, -, hE, hZ, hN⟩ := hP
  have hsz := hv.1
  subst hsz
  have hx := B.exec
  have hb := B.bytes
  have hr := B.returns
  have hts := atoms_spec (ws := wsL_isDriven) B.pre
  have hown : s.vm.findClass RL = some m.cls := findClass_of_methodNamed B.named
  have hlocks := B.notSynchronized
  have hn20 : n ≤ 20 := hJ.2.1
  have hwk20 : wk ≤ 20 := hJ.2.2.1
  have hne := hR.2.2.2.2.2
  have hl := lv_entry ([.ref ox, .ref ad, .ref ag, .int p3, .int p4, .int p5]) (n := 17) (Nat.le_of_ble_eq_true rfl)
  rw [lg_entry_eq]
  generalize (lg_sl ([.ref ox, .ref ad, .ref ag, .int p3, .int p4, .int p5]) ++ List.replicate (17 - (lg_sl ([.ref ox, .ref ad, .ref ag, .int p3, .int p4, .int p5])).length) Slot.unset).toArray = ls at hl ⊢
  have hl : lv_has ls 17 [(0, .ref ox), (1, .ref ad), (2, .ref ag), (3, .int p3), (4, .int p4), (5, .int p5)] := hl
  have JN_2 : ∀ (y_1 : Int32), y_1 = bI (rgtB a b) → ∀ ls : Array Slot, lv_has ls 17 [(0, .ref ox), (1, .ref ad), (2, .ref ag), (3, .int p3), (4, .int p4), (5, .int p5)] → W p l e (headSpec wsL_isDriven ({ frames := 9, cells := 5, slots := 34, locals := 154 } : Room)).room s m ([.ref ox, .ref ad, .ref ag, .int p3, .int p4, .int p5] : List Value).toArray below meth c s.heap [] (0) (0) (MQ below (wq_Q G L0 La s.heap.size (fun r1 L1 f1 fa1 => r1 = .int (bI true) ∧ wZ G ox lo ad av ao af ag La (t + 1) L1 f1 fa1)) ([.ref ox, .ref ad, .ref ag, .int p3, .int p4, .int p5] : List Value).toArray s 5 34 (wy_A (L0 ++ La) s.heap.size)) (F0 m 24 ls [.int y_1]) := by
    intro y_1 hy_1 ls hl
    refine lv_istore (lv' := [(6, .int y_1), (0, .ref ox), (1, .ref ad), (2, .ref ag), (3, .int p3), (4, .int p4), (5, .int p5)]) hx hb dL_isDriven_24 hl (by decide) rfl (fun ls hl => ?_)
    refine lv_iload_n hx hb dL_isDriven_26 rfl (lv_at hl 4 rfl) ?_
    refine lv_aload_n hx hb dL_isDriven_27 rfl (lv_at hl 3 rfl) ?_
    refine lv_iconst (v := 0) hx hb dL_isDriven_28 (by decide) ?_
    refine wy_iald hx hb hK hw.2.1.1 hR.2.2.2.2.1 (0) (rfl : (0 : Int32) = nI 0) (by omega) (by omega) dL_isDriven_29 ?_
    refine lv_icmp_ge (tgt := 48) hx hb dL_isDriven_30 (by decide) (fun c_3 => ?_) (fun c_3 => ?_)
    · have nc_3 : n ≤ k := (wy_ge e3 hB.2.2.2.2.2.2.1 (by omega) (by omega)).mp c_3
      refine lv_aload_n hx hb dL_isDriven_48 rfl (lv_at hl 1 rfl) ?_
      refine lv_bipush (v := 6) hx hb dL_isDriven_49 (by decide) ?_
      refine lv_iload_n hx hb dL_isDriven_51 rfl (lv_at hl 4 rfl) ?_
      refine lv_iload hx hb dL_isDriven_52 (lv_at hl 5 rfl) ?_
      refine lv_iload hx hb dL_isDriven_54 (lv_at hl 6 rfl) ?_
      refine lv_iconst (v := 0) hx hb dL_isDriven_56 (by decide) ?_
      have hix_5 : ix p3 = k := by rw [e3]; exact ix_nI (by omega)
      have hC_4 : dvC n p3 p4 p5 (rfi (rr (ix p3))) = 1 := by exact dvC_1 (by rw [e3]; exact okN_out (by omega) (by omega))
      refine wq_call0 (vx_runSX (As := [.ref ox, .int 6, .int p3, .int p4, .int p5, .int (bI false)]) (rest := []) ⟨hx, hb, hml, hown, hts⟩ (m_L_does_drive l hnt (fa := fa) hq (p3) (p4) (p5) (false)) (vx_cwSW 6 hts gL_isDriven_L_does rfl rfl rfl (by decide +kernel) ⟨Nat.le_of_ble_eq_true rfl, Nat.le_of_ble_eq_true rfl⟩) (wq_pre0 hK hE hZ hN hw hA) rfl rfl hl.1 rfl (lv_room (Nat.le_of_ble_eq_true rfl)) dL_isDriven_57 ⟨(show 0 + 4 ≤ 5 by omega), (show 0 + 24 ≤ 34 by omega)⟩) hw hA (fun r_4 L_4 f_4 fx_4 H locs hp hw => ?_)
      obtain ⟨er, hq⟩ := wd_er hp (by rw [hC_4]; decide) hq
      have er : r_4 = .int (-30) := er.trans (congrArg Value.int (by rw [hC_4]; decide))
      subst er
      refine lv_iload_n hx hb dL_isDriven_60 rfl (lv_at hl 4 rfl) ?_
      refine lv_aload_n hx hb dL_isDriven_61 rfl (lv_at hl 3 rfl) ?_
      refine lv_iconst (v := 0) hx hb dL_isDriven_62 (by decide) ?_
      refine wy_iald hx hb hK hw.2.1.1 hR.2.2.2.2.1 (0) (rfl : (0 : Int32) = nI 0) (by omega) (by omega) dL_isDriven_63 ?_
      refine lv_icmp_lt (tgt := 72) hx hb dL_isDriven_64 (by decide) (fun z => absurd z ((fun z => absurd ((wy_lt e3 hB.2.2.2.2.2.2.1 (by omega) (by omega)).mp z) (by omega) : ¬ p3 < g 0))) (fun _ => ?_)
      refine lv_bipush (v := (-30)) hx hb dL_isDriven_67 (by decide) ?_
      refine lv_goto (tgt := 84) hx hb dL_isDriven_69 (by decide) ?_
      refine lv_icmp_ne (tgt := 91) hx hb dL_isDriven_84 (by decide) (fun z => absurd z (by decide)) (fun _ => ?_)
      refine lv_iconst (v := 1) hx hb dL_isDriven_87 (by decide) ?_
      refine lv_goto (tgt := 92) hx hb dL_isDriven_88 (by decide) ?_
      exact wq_zret (b := true) rfl hx hb hr hlocks dL_isDriven_92 hw (show 0 + 4 ≤ 5 by omega) (show 0 + 24 ≤ 34 by omega) ⟨rfl, ra, ar, n, km, mn, wk, po, rr, d, v, o, fr, g, hq, ⟨hR.1, hR.2.1, hR.2.2.1, hR.2.2.2.1, hR.2.2.2.2.1, hne⟩, hJ.up, hB⟩
    · have nc_3 : ¬ (n ≤ k) := fun z => c_3 ((wy_ge e3 hB.2.2.2.2.2.2.1 (by omega) (by omega)).mpr z)
      refine lv_iload hx hb dL_isDriven_33 (lv_at hl 0 rfl) ?_
      refine lv_if_eq (tgt := 48) hx hb dL_isDriven_35 (by decide) (fun c_6 => ?_) (fun c_6 => ?_)
      · have bc_6 : (rgtB a b) = false := bI_0 (hy_1.symm.trans c_6)
        refine lv_aload_n hx hb dL_isDriven_48 rfl (lv_at hl 1 rfl) ?_
        refine lv_bipush (v := 6) hx hb dL_isDriven_49 (by decide) ?_
        refine lv_iload_n hx hb dL_isDriven_51 rfl (lv_at hl 4 rfl) ?_
        refine lv_iload hx hb dL_isDriven_52 (lv_at hl 5 rfl) ?_
        refine lv_iload hx hb dL_isDriven_54 (lv_at hl 6 rfl) ?_
        refine lv_iconst (v := 0) hx hb dL_isDriven_56 (by decide) ?_
        have hix_8 : ix p3 = k := by rw [e3]; exact ix_nI (by omega)
        have hC_7 : dvC n p3 p4 p5 (rfi (rr (ix p3))) = 2 := by rw [hix_8]; exact dvC_2 (okN_of e3 (by omega) (by omega)) e4 e5 (by omega) (by omega) bc_6
        refine wq_call0 (vx_runSX (As := [.ref ox, .int 6, .int p3, .int p4, .int p5, .int (bI false)]) (rest := []) ⟨hx, hb, hml, hown, hts⟩ (m_L_does_drive l hnt (fa := fa) hq (p3) (p4) (p5) (false)) (vx_cwSW 6 hts gL_isDriven_L_does rfl rfl rfl (by decide +kernel) ⟨Nat.le_of_ble_eq_true rfl, Nat.le_of_ble_eq_true rfl⟩) (wq_pre0 hK hE hZ hN hw hA) rfl rfl hl.1 rfl (lv_room (Nat.le_of_ble_eq_true rfl)) dL_isDriven_57 ⟨(show 0 + 4 ≤ 5 by omega), (show 0 + 24 ≤ 34 by omega)⟩) hw hA (fun r_7 L_7 f_7 fx_7 H locs hp hw => ?_)
        obtain ⟨er, hq⟩ := wd_er hp (by rw [hC_7]; decide) hq
        have er : r_7 = .int (-20) := er.trans (congrArg Value.int (by rw [hC_7]; decide))
        subst er
        refine lv_iload_n hx hb dL_isDriven_60 rfl (lv_at hl 4 rfl) ?_
        refine lv_aload_n hx hb dL_isDriven_61 rfl (lv_at hl 3 rfl) ?_
        refine lv_iconst (v := 0) hx hb dL_isDriven_62 (by decide) ?_
        refine wy_iald hx hb hK hw.2.1.1 hR.2.2.2.2.1 (0) (rfl : (0 : Int32) = nI 0) (by omega) (by omega) dL_isDriven_63 ?_
        refine lv_icmp_lt (tgt := 72) hx hb dL_isDriven_64 (by decide) (fun _ => ?_) (fun z => absurd (((wy_lt e3 hB.2.2.2.2.2.2.1 (by omega) (by omega)).mpr (by omega))) z)
        refine lv_iload hx hb dL_isDriven_72 (lv_at hl 0 rfl) ?_
        refine lv_if_eq (tgt := 82) hx hb dL_isDriven_74 (by decide) (fun c_9 => ?_) (fun c_9 => ?_)
        · have bc_9 : (rgtB a b) = false := bI_0 (hy_1.symm.trans c_9)
          refine lv_bipush (v := (-20)) hx hb dL_isDriven_82 (by decide) ?_
          refine lv_icmp_ne (tgt := 91) hx hb dL_isDriven_84 (by decide) (fun z => absurd z (by decide)) (fun _ => ?_)
          refine lv_iconst (v := 1) hx hb dL_isDriven_87 (by decide) ?_
          refine lv_goto (tgt := 92) hx hb dL_isDriven_88 (by decide) ?_
          exact wq_zret (b := true) rfl hx hb hr hlocks dL_isDriven_92 hw (show 0 + 4 ≤ 5 by omega) (show 0 + 24 ≤ 34 by omega) ⟨rfl, ra, ar, n, km, mn, wk, po, rr, d, v, o, fr, g, hq, ⟨hR.1, hR.2.1, hR.2.2.1, hR.2.2.2.1, hR.2.2.2.2.1, hne⟩, hJ.up, hB⟩
        · have bc_9 : (rgtB a b) = true := bI_1 (fun z => c_9 (hy_1.trans z))
          exact absurd (bc_6.symm.trans bc_9) (by decide)
      · have bc_6 : (rgtB a b) = true := bI_1 (fun z => c_6 (hy_1.trans z))
        refine lv_aload_n hx hb dL_isDriven_38 rfl (lv_at hl 2 rfl) ?_
        refine lv_bipush (v := 20) hx hb dL_isDriven_39 (by decide) ?_
        refine lv_iload_n hx hb dL_isDriven_41 rfl (lv_at hl 4 rfl) ?_
        refine lv_iadd hx hb dL_isDriven_42 ?_
        refine lv_topi (fun x_10 ex_10 => ?_)
        have nx_10 : x_10 = nI (20 + k) := ex_10.trans ((congr (congrArg (fun u v : Int32 => u + v) (rfl : (20 : Int32) = nI 20)) e3).trans (nI_add _ _))
        refine wy_iald hx hb hK hw.2.1.1 hR.1 (20 + k) nx_10 (by omega) (by omega) dL_isDriven_43 ?_
        refine lv_iconst (v := 1) hx hb dL_isDriven_44 (by decide) ?_
        refine lv_icmp_ne (tgt := 93) hx hb dL_isDriven_45 (by decide) (fun c_11 => ?_) (fun c_11 => ?_)
        · have bc_11 : (rfi (rr k)) = false := bI_n1 (fun z => c_11 ((hB.2.1 (k) (by omega)).trans z))
          have hrb := rgt_t bc_6
          have hfi := bc_11
          obtain ⟨Cn, hCn, eC⟩ := P_cost hJ e4 e5 hrb.1 hrb.2.2
          refine lv_aload_n hx hb dL_isDriven_93 rfl (lv_at hl 1 rfl) ?_
          refine lv_iload_n hx hb dL_isDriven_94 rfl (lv_at hl 4 rfl) ?_
          refine vp_callSi (W.runV (As := [.int p3]) (rest := []) ⟨hx, hb, hml, hown, hts⟩ (r_X1_aboard l hq (p3) (k) (by omega) e3) (cwV 1 hts gL_isDriven_X1_aboard rfl rfl rfl (by decide +kernel) ⟨Nat.le_of_ble_eq_true rfl, Nat.le_of_ble_eq_true rfl⟩) (wy_pVR hK hw.1.1 hq.1 rfl) rfl rfl hl.1 rfl (lv_room (Nat.le_of_ble_eq_true rfl)) dL_isDriven_95 ⟨(show 0 + 0 ≤ 5 by omega), (show 0 + 0 ≤ 34 by omega)⟩) (fun r_12 er_12 => ?_)
          subst er_12
          refine lv_istore (lv' := [(7, .int (mks (rsd (rr k)))), (6, .int y_1), (0, .ref ox), (1, .ref ad), (2, .ref ag), (3, .int p3), (4, .int p4), (5, .int p5)]) hx hb dL_isDriven_98 hl (by decide) rfl (fun ls hl => ?_)
          refine lv_iload hx hb dL_isDriven_100 (lv_at hl 0 rfl) ?_
          refine vp_callSi (W.runS (As := [.int (mks (rsd (rr k)))]) (rest := []) ⟨hx, hb, hml, hown, hts⟩ (m_L_bits l (fun z9 => decide (z9 < 10) && rsd (rr k) z9) (mks (rsd (rr k))) (fun i hi => mks_bt _ (by omega))) (va_cwS 1 hts gL_isDriven_L_bits rfl rfl rfl (by decide +kernel) ⟨Nat.le_of_ble_eq_true rfl, Nat.le_of_ble_eq_true rfl⟩) wy_pSN rfl rfl hl.1 rfl (lv_room (Nat.le_of_ble_eq_true rfl)) dL_isDriven_102 ⟨(show 0 + 0 ≤ 5 by omega), (show 0 + 0 ≤ 34 by omega)⟩) (fun r_13 er_13 => ?_)
          subst er_13
          refine lv_istore (lv' := [(8, .int (nI (cb (fun z9 => decide (z9 < 10) && rsd (rr k) z9) 20))), (7, .int (mks (rsd (rr k)))), (6, .int y_1), (0, .ref ox), (1, .ref ad), (2, .ref ag), (3, .int p3), (4, .int p4), (5, .int p5)]) hx hb dL_isDriven_105 hl (by decide) rfl (fun ls hl => ?_)
          have JN_15 : ∀ (y_14 : Int32), y_14 = (if cb (rsd (rr k)) 10 = 0 then 0 else p4 * km + p5 * mn) → ∀ ls : Array Slot, lv_has ls 17 [(8, .int (nI (cb (fun z9 => decide (z9 < 10) && rsd (rr k) z9) 20))), (7, .int (mks (rsd (rr k)))), (6, .int y_1), (0, .ref ox), (1, .ref ad), (2, .ref ag), (3, .int p3), (4, .int p4), (5, .int p5)] → W p l e (headSpec wsL_isDriven ({ frames := 9, cells := 5, slots := 34, locals := 154 } : Room)).room s m ([.ref ox, .ref ad, .ref ag, .int p3, .int p4, .int p5] : List Value).toArray below meth c s.heap [] (0) (0) (MQ below (wq_Q G L0 La s.heap.size (fun r1 L1 f1 fa1 => r1 = .int (bI true) ∧ wZ G ox lo ad av ao af ag La (t + 1) L1 f1 fa1)) ([.ref ox, .ref ad, .ref ag, .int p3, .int p4, .int p5] : List Value).toArray s 5 34 (wy_A (L0 ++ La) s.heap.size)) (F0 m 129 ls [.int y_14]) := by
            intro y_14 hy_14 ls hl
            refine lv_istore (lv' := [(9, .int y_14), (8, .int (nI (cb (fun z9 => decide (z9 < 10) && rsd (rr k) z9) 20))), (7, .int (mks (rsd (rr k)))), (6, .int y_1), (0, .ref ox), (1, .ref ad), (2, .ref ag), (3, .int p3), (4, .int p4), (5, .int p5)]) hx hb dL_isDriven_129 hl (by decide) rfl (fun ls hl => ?_)
            refine lv_iconst (v := 0) hx hb dL_isDriven_131 (by decide) ?_
            refine lv_istore (lv' := [(10, .int 0), (9, .int y_14), (8, .int (nI (cb (fun z9 => decide (z9 < 10) && rsd (rr k) z9) 20))), (7, .int (mks (rsd (rr k)))), (6, .int y_1), (0, .ref ox), (1, .ref ad), (2, .ref ag), (3, .int p3), (4, .int p4), (5, .int p5)]) hx hb dL_isDriven_132 hl (by decide) rfl (fun ls hl => ?_)
            refine lv_ldc (v := 1000000000) hx hb hown (hts (.constant RL 124 (1000000000)) (by decide +kernel)) dL_isDriven_134 ?_
            refine lv_istore (lv' := [(11, .int 1000000000), (10, .int 0), (9, .int y_14), (8, .int (nI (cb (fun z9 => decide (z9 < 10) && rsd (rr k) z9) 20))), (7, .int (mks (rsd (rr k)))), (6, .int y_1), (0, .ref ox), (1, .ref ad), (2, .ref ag), (3, .int p3), (4, .int p4), (5, .int p5)]) hx hb dL_isDriven_136 hl (by decide) rfl (fun ls hl => ?_)
            refine lv_iconst (v := 0) hx hb dL_isDriven_138 (by decide) ?_
            refine lv_istore (lv' := [(12, .int 0), (11, .int 1000000000), (10, .int 0), (9, .int y_14), (8, .int (nI (cb (fun z9 => decide (z9 < 10) && rsd (rr k) z9) 20))), (7, .int (mks (rsd (rr k)))), (6, .int y_1), (0, .ref ox), (1, .ref ad), (2, .ref ag), (3, .int p3), (4, .int p4), (5, .int p5)]) hx hb dL_isDriven_139 hl (by decide) rfl (fun ls hl => ?_)
            have KK_i : ∀ (di i : Nat), i + di = 10 → ∀ (xi_i : Int32), xi_i = nI (i) → ∀ (s_s : Int32), s_s = 0 - bx_sum (rch (rr k)) i → ∀ ls : Array Slot, lv_has ls 17 [(12, .int xi_i), (11, .int 1000000000), (10, .int s_s), (9, .int y_14), (8, .int (nI (cb (fun z9 => decide (z9 < 10) && rsd (rr k) z9) 20))), (7, .int (mks (rsd (rr k)))), (6, .int y_1), (0, .ref ox), (1, .ref ad), (2, .ref ag), (3, .int p3), (4, .int p4), (5, .int p5)] → W p l e (headSpec wsL_isDriven ({ frames := 9, cells := 5, slots := 34, locals := 154 } : Room)).room s m ([.ref ox, .ref ad, .ref ag, .int p3, .int p4, .int p5] : List Value).toArray below meth c s.heap [] (0) (0) (MQ below (wq_Q G L0 La s.heap.size (fun r1 L1 f1 fa1 => r1 = .int (bI true) ∧ wZ G ox lo ad av ao af ag La (t + 1) L1 f1 fa1)) ([.ref ox, .ref ad, .ref ag, .int p3, .int p4, .int p5] : List Value).toArray s 5 34 (wy_A (L0 ++ La) s.heap.size)) (F0 m 141 ls []) := by
              intro di
              induction di with
              | zero =>
                intro i hd_i xi_i ei_i s_s hs_s ls hl
                refine lv_iload hx hb dL_isDriven_141 (lv_at hl 0 rfl) ?_
                refine lv_bipush (v := 10) hx hb dL_isDriven_143 (by decide) ?_
                refine lv_icmp_ge (tgt := 166) hx hb dL_isDriven_145 (by decide) (fun c_16 => ?_) (fun c_16 => ?_)
                · have nc_16 : 10 ≤ i := (wy_ge ei_i (rfl : (10 : Int32) = nI 10) (by omega) (by decide)).mp c_16
                  obtain rfl : 10 = i := by omega
                  refine lv_bipush (v := 10) hx hb dL_isDriven_166 (by decide) ?_
                  refine wq_newI hx hb (hts (.arrayClass .int) (by decide +kernel)) hK hw hA (10) rfl (by decide) (show 0 + 1 ≤ 5 by omega) (show 0 + 10 ≤ 34 by omega) dL_isDriven_168 (fun aw H fb hqa hwas hnb hw => ?_)
                  have hcw_ad := wy_c.app2 hR.1 hqa hnb
                  have hnw_ad : ad ≠ aw := wy_c.neq hR.1 hqa
                  have hcw_av := wy_c.app2 hR.2.1 hqa hnb
                  have hnw_av : av ≠ aw := wy_c.neq hR.2.1 hqa
                  have hcw_ao := wy_c.app2 hR.2.2.1 hqa hnb
                  have hnw_ao : ao ≠ aw := wy_c.neq hR.2.2.1 hqa
                  have hcw_af := wy_c.app2 hR.2.2.2.1 hqa hnb
                  have hnw_af : af ≠ aw := wy_c.neq hR.2.2.2.1 hqa
                  have hcw_ag := wy_c.app2 hR.2.2.2.2.1 hqa hnb
                  have hnw_ag : ag ≠ aw := wy_c.neq hR.2.2.2.2.1 hqa
                  refine lv_astore (lv' := [(12, .ref aw), (11, .int 1000000000), (10, .int s_s), (9, .int y_14), (8, .int (nI (cb (fun z9 => decide (z9 < 10) && rsd (rr k) z9) 20))), (7, .int (mks (rsd (rr k)))), (6, .int y_1), (0, .ref ox), (1, .ref ad), (2, .ref ag), (3, .int p3), (4, .int p4), (5, .int p5)]) hx hb dL_isDriven_170 hl (by decide) rfl (fun ls hl => ?_)
                  refine lv_iconst (v := 0) hx hb dL_isDriven_172 (by decide) ?_
                  refine lv_istore (lv' := [(13, .int 0), (12, .ref aw), (11, .int 1000000000), (10, .int s_s), (9, .int y_14), (8, .int (nI (cb (fun z9 => decide (z9 < 10) && rsd (rr k) z9) 20))), (7, .int (mks (rsd (rr k)))), (6, .int y_1), (0, .ref ox), (1, .ref ad), (2, .ref ag), (3, .int p3), (4, .int p4), (5, .int p5)]) hx hb dL_isDriven_173 hl (by decide) rfl (fun ls hl => ?_)
                  have KK2 : ∀ (d2i i : Nat), i + d2i = 10 → ∀ (xi_i : Int32), xi_i = nI (i) → ∀ (H : Heap) (locs : List Loc) (fb : Nat → va_E) (wf : Nat → Int32), wq_H G (wy_A (L0 ++ La) s.heap.size) s.heap H locs L0 f0 (La ++ [aw]) fb → (wR G (La ++ [aw]) fb ad av ao af ag d v o fr g) → (wy_c (La ++ [aw]) fb aw (.inl (G.2 0, 10, .inl wf))) → (∀ r, r < i → wf r = rch (rr k) r) → ∀ ls : Array Slot, lv_has ls 17 [(13, .int xi_i), (12, .ref aw), (11, .int 1000000000), (10, .int s_s), (9, .int y_14), (8, .int (nI (cb (fun z9 => decide (z9 < 10) && rsd (rr k) z9) 20))), (7, .int (mks (rsd (rr k)))), (6, .int y_1), (0, .ref ox), (1, .ref ad), (2, .ref ag), (3, .int p3), (4, .int p4), (5, .int p5)] → W p l e (headSpec wsL_isDriven ({ frames := 9, cells := 5, slots := 34, locals := 154 } : Room)).room s m ([.ref ox, .ref ad, .ref ag, .int p3, .int p4, .int p5] : List Value).toArray below meth c H locs (0 + 1) (0 + 10) (MQ below (wq_Q G L0 La s.heap.size (fun r1 L1 f1 fa1 => r1 = .int (bI true) ∧ wZ G ox lo ad av ao af ag La (t + 1) L1 f1 fa1)) ([.ref ox, .ref ad, .ref ag, .int p3, .int p4, .int p5] : List Value).toArray s 5 34 (wy_A (L0 ++ La) s.heap.size)) (F0 m 175 ls []) := by
                    intro d2i
                    induction d2i with
                    | zero =>
                      intro i hd_i xi_i ei_i H locs fb wf hw hR2 hwas hwf ls hl
                      refine lv_iload hx hb dL_isDriven_175 (lv_at hl 0 rfl) ?_
                      refine lv_bipush (v := 10) hx hb dL_isDriven_177 (by decide) ?_
                      refine lv_icmp_ge (tgt := 200) hx hb dL_isDriven_179 (by decide) (fun c_17 => ?_) (fun c_17 => ?_)
                      · have nc_17 : 10 ≤ i := (wy_ge ei_i (rfl : (10 : Int32) = nI 10) (by omega) (by decide)).mp c_17
                        obtain rfl : 10 = i := by omega
                        refine lv_aload_n hx hb dL_isDriven_200 rfl (lv_at hl 9 rfl) ?_
                        refine lv_bipush (v := 40) hx hb dL_isDriven_201 (by decide) ?_
                        refine lv_iload_n hx hb dL_isDriven_203 rfl (lv_at hl 11 rfl) ?_
                        refine lv_iadd hx hb dL_isDriven_204 ?_
                        refine lv_topi (fun x_18 ex_18 => ?_)
                        have nx_18 : x_18 = nI (40 + k) := ex_18.trans ((congr (congrArg (fun u v : Int32 => u + v) (rfl : (40 : Int32) = nI 40)) e3).trans (nI_add _ _))
                        refine lv_iconst (v := 1) hx hb dL_isDriven_205 (by decide) ?_
                        refine wq_iast hx hb hK hw hR2.1 (40 + k) nx_18 (by omega) (by omega) dL_isDriven_206 (fun H locs fa_19 hc_20 hn_21 hw => ?_)
                        obtain ⟨d_22, hd_22⟩ : ∃ y, y = upd d (40 + k) (1) := ⟨_, rfl⟩
                        rw [← hd_22] at hc_20
                        have hc_23 := wy_c.ne2 hR2.2.1 hn_21 (Ne.symm hne.1)
                        have hc_24 := wy_c.ne2 hR2.2.2.1 hn_21 (Ne.symm hne.2.1)
                        have hc_25 := wy_c.ne2 hR2.2.2.2.1 hn_21 (Ne.symm hne.2.2.1)
                        have hc_26 := wy_c.ne2 hR2.2.2.2.2.1 hn_21 (Ne.symm hne.2.2.2.1)
                        have hc_27 := wy_c.ne2 hwas hn_21 (Ne.symm hnw_ad)
                        refine lv_aload_n hx hb dL_isDriven_207 rfl (lv_at hl 8 rfl) ?_
                        refine lv_bipush (v := 6) hx hb dL_isDriven_208 (by decide) ?_
                        refine lv_iload_n hx hb dL_isDriven_210 rfl (lv_at hl 11 rfl) ?_
                        refine lv_iload hx hb dL_isDriven_211 (lv_at hl 12 rfl) ?_
                        refine lv_iload hx hb dL_isDriven_213 (lv_at hl 13 rfl) ?_
                        refine lv_iconst (v := 0) hx hb dL_isDriven_215 (by decide) ?_
                        have hix_29 : ix p3 = k := by rw [e3]; exact ix_nI (by omega)
                        have hC_28 : dvC n p3 p4 p5 (rfi (rr (ix p3))) = 0 := by rw [hix_29]; exact dvC_ok (okN_of e3 (by omega) (by omega)) e4 e5 (by omega) (by omega) bc_6 hfi
                        refine wq_call0 (vx_runSX (As := [.ref ox, .int 6, .int p3, .int p4, .int p5, .int (bI false)]) (rest := []) ⟨hx, hb, hml, hown, hts⟩ (m_L_does_drive l hnt (fa := fa_19) hq (p3) (p4) (p5) (false)) (vx_cwSW 6 hts gL_isDriven_L_does rfl rfl rfl (by decide +kernel) ⟨Nat.le_of_ble_eq_true rfl, Nat.le_of_ble_eq_true rfl⟩) (wq_pre0 hK hE hZ hN hw hA) rfl rfl hl.1 rfl (lv_room (Nat.le_of_ble_eq_true rfl)) dL_isDriven_216 ⟨(show 0 + 1 + 4 ≤ 5 by omega), (show 0 + 10 + 24 ≤ 34 by omega)⟩) hw hA (fun r_28 L_28 f_28 fx_28 H locs hp hw => ?_)
                        obtain ⟨er, ra, ar, hq⟩ := wd_ok hp hC_28
                        simp only [hix_29] at er hq
                        subst er
                        obtain ⟨rr_30, hrr_30⟩ : ∃ y : Nat → wr_V, y = va_up rr (k) (vStr (rr (k)) (p4 * km + p5 * mn) p5) := ⟨_, rfl⟩
                        rw [← hrr_30] at hq
                        refine lv_iload hx hb dL_isDriven_219 (lv_at hl 4 rfl) ?_
                        refine lv_icmp_ne (tgt := 228) hx hb dL_isDriven_221 (by decide) (fun z => absurd (hy_14.symm) z) (fun _ => ?_)
                        refine lv_iconst (v := 1) hx hb dL_isDriven_224 (by decide) ?_
                        refine lv_goto (tgt := 229) hx hb dL_isDriven_225 (by decide) ?_
                        refine lv_istore (lv' := [(13, .int 1), (12, .ref aw), (11, .int 1000000000), (10, .int s_s), (9, .int y_14), (8, .int (nI (cb (fun z9 => decide (z9 < 10) && rsd (rr k) z9) 20))), (7, .int (mks (rsd (rr k)))), (6, .int y_1), (0, .ref ox), (1, .ref ad), (2, .ref ag), (3, .int p3), (4, .int p4), (5, .int p5)]) hx hb dL_isDriven_229 hl (by decide) rfl (fun ls hl => ?_)
                        refine lv_iconst (v := 0) hx hb dL_isDriven_231 (by decide) ?_
                        refine lv_istore (lv' := [(14, .int 0), (13, .int 1), (12, .ref aw), (11, .int 1000000000), (10, .int s_s), (9, .int y_14), (8, .int (nI (cb (fun z9 => decide (z9 < 10) && rsd (rr k) z9) 20))), (7, .int (mks (rsd (rr k)))), (6, .int y_1), (0, .ref ox), (1, .ref ad), (2, .ref ag), (3, .int p3), (4, .int p4), (5, .int p5)]) hx hb dL_isDriven_232 hl (by decide) rfl (fun ls hl => ?_)
                        have KK3 : ∀ (d3i i : Nat), i + d3i = 10 → ∀ (xi_i : Int32), xi_i = nI (i) → ∀ (q_s : Int32), q_s = s_s + bx_sum (rch (rr_30 k)) i → ∀ (l_s : Int32), lsI (rsd (rr k)) Cn i l_s → ∀ ls : Array Slot, lv_has ls 17 [(14, .int xi_i), (13, .int 1), (12, .ref aw), (11, .int l_s), (10, .int q_s), (9, .int y_14), (8, .int (nI (cb (fun z9 => decide (z9 < 10) && rsd (rr k) z9) 20))), (7, .int (mks (rsd (rr k)))), (6, .int y_1), (0, .ref ox), (1, .ref ad), (2, .ref ag), (3, .int p3), (4, .int p4), (5, .int p5)] → W p l e (headSpec wsL_isDriven ({ frames := 9, cells := 5, slots := 34, locals := 154 } : Room)).room s m ([.ref ox, .ref ad, .ref ag, .int p3, .int p4, .int p5] : List Value).toArray below meth c H locs (0 + 1 + 4) (0 + 10 + 24) (MQ below (wq_Q G L0 La s.heap.size (fun r1 L1 f1 fa1 => r1 = .int (bI true) ∧ wZ G ox lo ad av ao af ag La (t + 1) L1 f1 fa1)) ([.ref ox, .ref ad, .ref ag, .int p3, .int p4, .int p5] : List Value).toArray s 5 34 (wy_A (L0 ++ La) s.heap.size)) (F0 m 234 ls []) := by
                          intro d3i
                          induction d3i with
                          | zero =>
                            intro i hd_i xi_i ei_i q_s hq_s l_s hl_s ls hl
                            refine lv_iload hx hb dL_isDriven_234 (lv_at hl 0 rfl) ?_
                            refine lv_bipush (v := 10) hx hb dL_isDriven_236 (by decide) ?_
                            refine lv_icmp_ge (tgt := 365) hx hb dL_isDriven_238 (by decide) (fun c_31 => ?_) (fun c_31 => ?_)
                            · have nc_31 : 10 ≤ i := (wy_ge ei_i (rfl : (10 : Int32) = nI 10) (by omega) (by decide)).mp c_31
                              obtain rfl : 10 = i := by omega
                              refine lv_iload hx hb dL_isDriven_365 (lv_at hl 1 rfl) ?_
                              refine lv_if_eq (tgt := 391) hx hb dL_isDriven_367 (by decide) (fun z => absurd z (by decide)) (fun _ => ?_)
                              refine lv_iload hx hb dL_isDriven_370 (lv_at hl 4 rfl) ?_
                              refine lv_iload hx hb dL_isDriven_372 (lv_at hl 5 rfl) ?_
                              refine lv_icmp_ne (tgt := 391) hx hb dL_isDriven_374 (by decide) (fun z => absurd (hq_s.trans ((by rw [hs_s, hrr_30, va_up_self]; exact P_drs eC (by omega) : _ = (if cb (rsd (rr k)) 10 = 0 then 0 else p4 * km + p5 * mn)).trans hy_14.symm)) z) (fun _ => ?_)
                              refine lv_aload_n hx hb dL_isDriven_377 rfl (lv_at hl 9 rfl) ?_
                              refine lv_iload_n hx hb dL_isDriven_378 rfl (lv_at hl 12 rfl) ?_
                              refine vp_callSi (W.runV (As := [.int p3]) (rest := []) ⟨hx, hb, hml, hown, hts⟩ (r_X1_aboard l hq (p3) (k) (by omega) e3) (cwV 1 hts gL_isDriven_X1_aboard rfl rfl rfl (by decide +kernel) ⟨Nat.le_of_ble_eq_true rfl, Nat.le_of_ble_eq_true rfl⟩) (wy_pVR hK hw.1.1 hq.1 rfl) rfl rfl hl.1 rfl (lv_room (Nat.le_of_ble_eq_true rfl)) dL_isDriven_379 ⟨(show 0 + 1 + 4 + 0 ≤ 5 by omega), (show 0 + 10 + 24 + 0 ≤ 34 by omega)⟩) (fun r_32 er_32 => ?_)
                              subst er_32
                              refine lv_iload hx hb dL_isDriven_382 (lv_at hl 7 rfl) ?_
                              refine lv_icmp_ne (tgt := 391) hx hb dL_isDriven_384 (by decide) (fun z => absurd ((by rw [hrr_30, va_up_self]; rfl : mks (rsd (rr_30 k)) = mks (rsd (rr k)))) z) (fun _ => ?_)
                              refine lv_iconst (v := 1) hx hb dL_isDriven_387 (by decide) ?_
                              refine lv_goto (tgt := 392) hx hb dL_isDriven_388 (by decide) ?_
                              exact wq_zret (b := true) rfl hx hb hr hlocks dL_isDriven_392 hw.drop (show 0 + 1 + 4 ≤ 5 by omega) (show 0 + 10 + 24 ≤ 34 by omega) ⟨rfl, ra, ar, n, km, mn, wk, po, rr_30, d_22, v, o, fr, g, hq, ⟨⟨hR.1.1, hc_20.2⟩, ⟨hR.2.1.1, hc_23.2⟩, ⟨hR.2.2.1.1, hc_24.2⟩, ⟨hR.2.2.2.1.1, hc_25.2⟩, ⟨hR.2.2.2.2.1.1, hc_26.2⟩, hne⟩, (by rw [hrr_30]; exact J_str hJ ht (by omega) hfi eC hCn e5 hrb.2.2), (by rw [hrr_30]; exact B_str hB hJ ht (by omega) hn20 e5 hrb.2.1 hrb.2.2 hd_22)⟩
                            · have nc_31 : ¬ (10 ≤ i) := fun z => c_31 ((wy_ge ei_i (rfl : (10 : Int32) = nI 10) (by omega) (by decide)).mpr z)
                              exact absurd nc_31 (by omega)
                          | succ d3i ih_d3i =>
                            intro i hd_i xi_i ei_i q_s hq_s l_s hl_s ls hl
                            refine lv_iload hx hb dL_isDriven_234 (lv_at hl 0 rfl) ?_
                            refine lv_bipush (v := 10) hx hb dL_isDriven_236 (by decide) ?_
                            refine lv_icmp_ge (tgt := 365) hx hb dL_isDriven_238 (by decide) (fun c_33 => ?_) (fun c_33 => ?_)
                            · have nc_33 : 10 ≤ i := (wy_ge ei_i (rfl : (10 : Int32) = nI 10) (by omega) (by decide)).mp c_33
                              exact absurd nc_33 (by omega)
                            · have nc_33 : ¬ (10 ≤ i) := fun z => c_33 ((wy_ge ei_i (rfl : (10 : Int32) = nI 10) (by omega) (by decide)).mpr z)
                              refine lv_iload hx hb dL_isDriven_241 (lv_at hl 1 rfl) ?_
                              refine lv_if_eq (tgt := 365) hx hb dL_isDriven_243 (by decide) (fun z => absurd z (by decide)) (fun _ => ?_)
                              refine lv_aload_n hx hb dL_isDriven_246 rfl (lv_at hl 9 rfl) ?_
                              refine lv_iload_n hx hb dL_isDriven_247 rfl (lv_at hl 12 rfl) ?_
                              refine lv_iload hx hb dL_isDriven_248 (lv_at hl 0 rfl) ?_
                              refine vp_callSi (W.runV (As := [.int p3, .int xi_i]) (rest := []) ⟨hx, hb, hml, hown, hts⟩ (r_X1_charge l hq (p3) (xi_i) (k) (i) (by omega) (by omega) e3 ei_i) (cwV 2 hts gL_isDriven_X1_charge rfl rfl rfl (by decide +kernel) ⟨Nat.le_of_ble_eq_true rfl, Nat.le_of_ble_eq_true rfl⟩) (wy_pVR hK hw.1.1 hq.1 rfl) rfl rfl hl.1 rfl (lv_room (Nat.le_of_ble_eq_true rfl)) dL_isDriven_250 ⟨(show 0 + 1 + 4 + 0 ≤ 5 by omega), (show 0 + 10 + 24 + 0 ≤ 34 by omega)⟩) (fun r_34 er_34 => ?_)
                              subst er_34
                              refine lv_aload hx hb dL_isDriven_253 (lv_at hl 2 rfl) ?_
                              refine lv_iload hx hb dL_isDriven_255 (lv_at hl 0 rfl) ?_
                              refine wy_iald hx hb hK hw.2.1.1 hc_27 (i) ei_i (by omega) (by omega) dL_isDriven_257 ?_
                              refine lv_isub hx hb dL_isDriven_258 ?_
                              refine lv_topi (fun x_35 ex_35 => ?_)
                              have hmo : x_35 = rch (vStr (rr k) (p4 * km + p5 * mn) p5) i - rch (rr k) i := by rw [ex_35, hwf i (by omega), hrr_30, va_up_self]
                              refine lv_istore (lv' := [(15, .int x_35), (14, .int xi_i), (13, .int 1), (12, .ref aw), (11, .int l_s), (10, .int q_s), (9, .int y_14), (8, .int (nI (cb (fun z9 => decide (z9 < 10) && rsd (rr k) z9) 20))), (7, .int (mks (rsd (rr k)))), (6, .int y_1), (0, .ref ox), (1, .ref ad), (2, .ref ag), (3, .int p3), (4, .int p4), (5, .int p5)]) hx hb dL_isDriven_259 hl (by decide) rfl (fun ls hl => ?_)
                              have JN_37 : ∀ (y_36 : Int32), y_36 = bI (rsd (rr k) i) → ∀ ls : Array Slot, lv_has ls 17 [(15, .int x_35), (14, .int xi_i), (13, .int 1), (12, .ref aw), (11, .int l_s), (10, .int q_s), (9, .int y_14), (8, .int (nI (cb (fun z9 => decide (z9 < 10) && rsd (rr k) z9) 20))), (7, .int (mks (rsd (rr k)))), (6, .int y_1), (0, .ref ox), (1, .ref ad), (2, .ref ag), (3, .int p3), (4, .int p4), (5, .int p5)] → W p l e (headSpec wsL_isDriven ({ frames := 9, cells := 5, slots := 34, locals := 154 } : Room)).room s m ([.ref ox, .ref ad, .ref ag, .int p3, .int p4, .int p5] : List Value).toArray below meth c H locs (0 + 1 + 4) (0 + 10 + 24) (MQ below (wq_Q G L0 La s.heap.size (fun r1 L1 f1 fa1 => r1 = .int (bI true) ∧ wZ G ox lo ad av ao af ag La (t + 1) L1 f1 fa1)) ([.ref ox, .ref ad, .ref ag, .int p3, .int p4, .int p5] : List Value).toArray s 5 34 (wy_A (L0 ++ La) s.heap.size)) (F0 m 277 ls [.int y_36]) := by
                                intro y_36 hy_36 ls hl
                                refine lv_istore (lv' := [(16, .int y_36), (15, .int x_35), (14, .int xi_i), (13, .int 1), (12, .ref aw), (11, .int l_s), (10, .int q_s), (9, .int y_14), (8, .int (nI (cb (fun z9 => decide (z9 < 10) && rsd (rr k) z9) 20))), (7, .int (mks (rsd (rr k)))), (6, .int y_1), (0, .ref ox), (1, .ref ad), (2, .ref ag), (3, .int p3), (4, .int p4), (5, .int p5)]) hx hb dL_isDriven_277 hl (by decide) rfl (fun ls hl => ?_)
                                refine lv_iload hx hb dL_isDriven_279 (lv_at hl 0 rfl) ?_
                                refine lv_if_eq (tgt := 321) hx hb dL_isDriven_281 (by decide) (fun c_38 => ?_) (fun c_38 => ?_)
                                · have bc_38 : (rsd (rr k) i) = false := bI_0 (hy_36.symm.trans c_38)
                                  have hmr : x_35 = 0 := hmo.trans (P_less eC (by omega) (by omega) bc_38)
                                  refine lv_iload hx hb dL_isDriven_321 (lv_at hl 1 rfl) ?_
                                  refine lv_if_ne (tgt := 330) hx hb dL_isDriven_323 (by decide) (fun z => absurd (hmr) z) (fun _ => ?_)
                                  refine lv_iconst (v := 1) hx hb dL_isDriven_326 (by decide) ?_
                                  refine lv_goto (tgt := 331) hx hb dL_isDriven_327 (by decide) ?_
                                  refine lv_istore (lv' := [(13, .int 1), (16, .int y_36), (15, .int x_35), (14, .int xi_i), (12, .ref aw), (11, .int l_s), (10, .int q_s), (9, .int y_14), (8, .int (nI (cb (fun z9 => decide (z9 < 10) && rsd (rr k) z9) 20))), (7, .int (mks (rsd (rr k)))), (6, .int y_1), (0, .ref ox), (1, .ref ad), (2, .ref ag), (3, .int p3), (4, .int p4), (5, .int p5)]) hx hb dL_isDriven_331 hl (by decide) rfl (fun ls hl => ?_)
                                  refine lv_iload hx hb dL_isDriven_333 (lv_at hl 1 rfl) ?_
                                  refine lv_if_eq (tgt := 343) hx hb dL_isDriven_335 (by decide) (fun c_39 => ?_) (fun c_39 => ?_)
                                  · have bc_39 : (rsd (rr k) i) = false := bI_0 (hy_36.symm.trans c_39)
                                    refine lv_iload hx hb dL_isDriven_343 (lv_at hl 5 rfl) ?_
                                    refine lv_istore (lv' := [(11, .int l_s), (13, .int 1), (16, .int y_36), (15, .int x_35), (14, .int xi_i), (12, .ref aw), (10, .int q_s), (9, .int y_14), (8, .int (nI (cb (fun z9 => decide (z9 < 10) && rsd (rr k) z9) 20))), (7, .int (mks (rsd (rr k)))), (6, .int y_1), (0, .ref ox), (1, .ref ad), (2, .ref ag), (3, .int p3), (4, .int p4), (5, .int p5)]) hx hb dL_isDriven_345 hl (by decide) rfl (fun ls hl => ?_)
                                    refine lv_iload hx hb dL_isDriven_347 (lv_at hl 6 rfl) ?_
                                    refine lv_aload_n hx hb dL_isDriven_349 rfl (lv_at hl 11 rfl) ?_
                                    refine lv_iload_n hx hb dL_isDriven_350 rfl (lv_at hl 14 rfl) ?_
                                    refine lv_iload hx hb dL_isDriven_351 (lv_at hl 4 rfl) ?_
                                    refine vp_callSi (W.runV (As := [.int p3, .int xi_i]) (rest := [.int q_s]) ⟨hx, hb, hml, hown, hts⟩ (r_X1_charge l hq (p3) (xi_i) (k) (i) (by omega) (by omega) e3 ei_i) (cwV 2 hts gL_isDriven_X1_charge rfl rfl rfl (by decide +kernel) ⟨Nat.le_of_ble_eq_true rfl, Nat.le_of_ble_eq_true rfl⟩) (wy_pVR hK hw.1.1 hq.1 rfl) rfl rfl hl.1 rfl (lv_room (Nat.le_of_ble_eq_true rfl)) dL_isDriven_353 ⟨(show 0 + 1 + 4 + 0 ≤ 5 by omega), (show 0 + 10 + 24 + 0 ≤ 34 by omega)⟩) (fun r_40 er_40 => ?_)
                                    subst er_40
                                    refine lv_iadd hx hb dL_isDriven_356 ?_
                                    refine lv_topi (fun x_41 ex_41 => ?_)
                                    refine lv_istore (lv' := [(10, .int x_41), (11, .int l_s), (13, .int 1), (16, .int y_36), (15, .int x_35), (14, .int xi_i), (12, .ref aw), (9, .int y_14), (8, .int (nI (cb (fun z9 => decide (z9 < 10) && rsd (rr k) z9) 20))), (7, .int (mks (rsd (rr k)))), (6, .int y_1), (0, .ref ox), (1, .ref ad), (2, .ref ag), (3, .int p3), (4, .int p4), (5, .int p5)]) hx hb dL_isDriven_357 hl (by decide) rfl (fun ls hl => ?_)
                                    obtain ⟨x_42, ex_42⟩ : ∃ y : Int32, y = xi_i + 1 := ⟨_, rfl⟩
                                    have nx_42 : x_42 = nI (i + 1) := by rw [ex_42, ei_i, nI_1]
                                    refine lv_iinc (v := x_42) (lv' := [(14, .int x_42), (10, .int x_41), (11, .int l_s), (13, .int 1), (16, .int y_36), (15, .int x_35), (12, .ref aw), (9, .int y_14), (8, .int (nI (cb (fun z9 => decide (z9 < 10) && rsd (rr k) z9) 20))), (7, .int (mks (rsd (rr k)))), (6, .int y_1), (0, .ref ox), (1, .ref ad), (2, .ref ag), (3, .int p3), (4, .int p4), (5, .int p5)]) hx hb dL_isDriven_359 hl (k := 5) rfl (by rw [ex_42]; rfl) (by decide) rfl (fun ls hl => ?_)
                                    refine lv_goto (tgt := 234) hx hb dL_isDriven_362 (by decide) ?_
                                    exact ih_d3i (i + 1) (by omega) _ nx_42 _ (by rw [ex_41, hq_s, Int32.add_assoc]; rfl) _ (lsI_f hl_s) ls (lv_sub hl [0, 3, 6, 2, 1, 7, 8, 9, 10, 11, 12, 13, 14, 15, 16] rfl)
                                  · have bc_39 : (rsd (rr k) i) = true := bI_1 (fun z => c_39 (hy_36.trans z))
                                    exact absurd (bc_38.symm.trans bc_39) (by decide)
                                · have bc_38 : (rsd (rr k) i) = true := bI_1 (fun z => c_38 (hy_36.trans z))
                                  have hmr : x_35 = nI (morN (rsd (rr k)) Cn i) := hmo.trans (P_more eC (by omega) (by omega) bc_38)
                                  have hyC : y_14 = nI Cn := hy_14.trans ((if_neg (m_ne bc_38 (by omega))).trans eC)
                                  refine lv_iload hx hb dL_isDriven_284 (lv_at hl 1 rfl) ?_
                                  refine lv_iload hx hb dL_isDriven_286 (lv_at hl 5 rfl) ?_
                                  refine lv_icmp_gt (tgt := 317) hx hb dL_isDriven_288 (by decide) (fun z => absurd z ((by rw [hmr]; exact hl_s i (Nat.le_refl _) (by omega) bc_38 : ¬ l_s < x_35))) (fun _ => ?_)
                                  refine lv_iload hx hb dL_isDriven_291 (lv_at hl 1 rfl) ?_
                                  refine lv_iload hx hb dL_isDriven_293 (lv_at hl 7 rfl) ?_
                                  refine lv_iload hx hb dL_isDriven_295 (lv_at hl 8 rfl) ?_
                                  refine lv_idiv hx hb dL_isDriven_297 (m_pos bc_38 (by omega)) ?_
                                  refine lv_topi (fun x_43 ex_43 => ?_)
                                  refine lv_icmp_lt (tgt := 317) hx hb dL_isDriven_298 (by decide) (fun z => absurd z ((by rw [ex_43]; exact P_q0 hCn (by omega) bc_38 hmr hyC : ¬ x_35 < x_43))) (fun _ => ?_)
                                  refine lv_iload hx hb dL_isDriven_301 (lv_at hl 1 rfl) ?_
                                  refine lv_iload hx hb dL_isDriven_303 (lv_at hl 7 rfl) ?_
                                  refine lv_iload hx hb dL_isDriven_305 (lv_at hl 8 rfl) ?_
                                  refine lv_idiv hx hb dL_isDriven_307 (m_pos bc_38 (by omega)) ?_
                                  refine lv_topi (fun x_44 ex_44 => ?_)
                                  refine lv_iconst (v := 1) hx hb dL_isDriven_308 (by decide) ?_
                                  refine lv_iadd hx hb dL_isDriven_309 ?_
                                  refine lv_topi (fun x_45 ex_45 => ?_)
                                  refine lv_icmp_gt (tgt := 317) hx hb dL_isDriven_310 (by decide) (fun z => absurd z ((by rw [ex_45, ex_44]; exact P_q1 hCn (by omega) bc_38 hmr hyC : ¬ x_45 < x_35))) (fun _ => ?_)
                                  refine lv_iconst (v := 1) hx hb dL_isDriven_313 (by decide) ?_
                                  refine lv_goto (tgt := 331) hx hb dL_isDriven_314 (by decide) ?_
                                  refine lv_istore (lv' := [(13, .int 1), (16, .int y_36), (15, .int x_35), (14, .int xi_i), (12, .ref aw), (11, .int l_s), (10, .int q_s), (9, .int y_14), (8, .int (nI (cb (fun z9 => decide (z9 < 10) && rsd (rr k) z9) 20))), (7, .int (mks (rsd (rr k)))), (6, .int y_1), (0, .ref ox), (1, .ref ad), (2, .ref ag), (3, .int p3), (4, .int p4), (5, .int p5)]) hx hb dL_isDriven_331 hl (by decide) rfl (fun ls hl => ?_)
                                  refine lv_iload hx hb dL_isDriven_333 (lv_at hl 1 rfl) ?_
                                  refine lv_if_eq (tgt := 343) hx hb dL_isDriven_335 (by decide) (fun c_46 => ?_) (fun c_46 => ?_)
                                  · have bc_46 : (rsd (rr k) i) = false := bI_0 (hy_36.symm.trans c_46)
                                    exact absurd (bc_38.symm.trans bc_46) (by decide)
                                  · have bc_46 : (rsd (rr k) i) = true := bI_1 (fun z => c_46 (hy_36.trans z))
                                    refine lv_iload hx hb dL_isDriven_338 (lv_at hl 2 rfl) ?_
                                    refine lv_goto (tgt := 345) hx hb dL_isDriven_340 (by decide) ?_
                                    refine lv_istore (lv' := [(11, .int x_35), (13, .int 1), (16, .int y_36), (15, .int x_35), (14, .int xi_i), (12, .ref aw), (10, .int q_s), (9, .int y_14), (8, .int (nI (cb (fun z9 => decide (z9 < 10) && rsd (rr k) z9) 20))), (7, .int (mks (rsd (rr k)))), (6, .int y_1), (0, .ref ox), (1, .ref ad), (2, .ref ag), (3, .int p3), (4, .int p4), (5, .int p5)]) hx hb dL_isDriven_345 hl (by decide) rfl (fun ls hl => ?_)
                                    refine lv_iload hx hb dL_isDriven_347 (lv_at hl 6 rfl) ?_
                                    refine lv_aload_n hx hb dL_isDriven_349 rfl (lv_at hl 11 rfl) ?_
                                    refine lv_iload_n hx hb dL_isDriven_350 rfl (lv_at hl 14 rfl) ?_
                                    refine lv_iload hx hb dL_isDriven_351 (lv_at hl 4 rfl) ?_
                                    refine vp_callSi (W.runV (As := [.int p3, .int xi_i]) (rest := [.int q_s]) ⟨hx, hb, hml, hown, hts⟩ (r_X1_charge l hq (p3) (xi_i) (k) (i) (by omega) (by omega) e3 ei_i) (cwV 2 hts gL_isDriven_X1_charge rfl rfl rfl (by decide +kernel) ⟨Nat.le_of_ble_eq_true rfl, Nat.le_of_ble_eq_true rfl⟩) (wy_pVR hK hw.1.1 hq.1 rfl) rfl rfl hl.1 rfl (lv_room (Nat.le_of_ble_eq_true rfl)) dL_isDriven_353 ⟨(show 0 + 1 + 4 + 0 ≤ 5 by omega), (show 0 + 10 + 24 + 0 ≤ 34 by omega)⟩) (fun r_47 er_47 => ?_)
                                    subst er_47
                                    refine lv_iadd hx hb dL_isDriven_356 ?_
                                    refine lv_topi (fun x_48 ex_48 => ?_)
                                    refine lv_istore (lv' := [(10, .int x_48), (11, .int x_35), (13, .int 1), (16, .int y_36), (15, .int x_35), (14, .int xi_i), (12, .ref aw), (9, .int y_14), (8, .int (nI (cb (fun z9 => decide (z9 < 10) && rsd (rr k) z9) 20))), (7, .int (mks (rsd (rr k)))), (6, .int y_1), (0, .ref ox), (1, .ref ad), (2, .ref ag), (3, .int p3), (4, .int p4), (5, .int p5)]) hx hb dL_isDriven_357 hl (by decide) rfl (fun ls hl => ?_)
                                    obtain ⟨x_49, ex_49⟩ : ∃ y : Int32, y = xi_i + 1 := ⟨_, rfl⟩
                                    have nx_49 : x_49 = nI (i + 1) := by rw [ex_49, ei_i, nI_1]
                                    refine lv_iinc (v := x_49) (lv' := [(14, .int x_49), (10, .int x_48), (11, .int x_35), (13, .int 1), (16, .int y_36), (15, .int x_35), (12, .ref aw), (9, .int y_14), (8, .int (nI (cb (fun z9 => decide (z9 < 10) && rsd (rr k) z9) 20))), (7, .int (mks (rsd (rr k)))), (6, .int y_1), (0, .ref ox), (1, .ref ad), (2, .ref ag), (3, .int p3), (4, .int p4), (5, .int p5)]) hx hb dL_isDriven_359 hl (k := 5) rfl (by rw [ex_49]; rfl) (by decide) rfl (fun ls hl => ?_)
                                    refine lv_goto (tgt := 234) hx hb dL_isDriven_362 (by decide) ?_
                                    exact ih_d3i (i + 1) (by omega) _ nx_49 _ (by rw [ex_48, hq_s, Int32.add_assoc]; rfl) _ (lsI_t hCn hmr) ls (lv_sub hl [0, 3, 6, 2, 1, 7, 8, 9, 10, 11, 12, 13, 14, 15, 16] rfl)
                              refine lv_iload hx hb dL_isDriven_261 (lv_at hl 8 rfl) ?_
                              refine lv_iload hx hb dL_isDriven_263 (lv_at hl 1 rfl) ?_
                              refine lv_ishr hx hb dL_isDriven_265 ?_
                              refine lv_topi (fun x_50 ex_50 => ?_)
                              refine lv_iconst (v := 1) hx hb dL_isDriven_266 (by decide) ?_
                              refine lv_iand hx hb dL_isDriven_267 ?_
                              refine lv_topi (fun x_51 ex_51 => ?_)
                              have hbt_52 : x_51 = bI (rsd (rr k) i) := by rw [ex_51, ex_50, ei_i]; exact P_bit _ (by omega)
                              refine lv_iconst (v := 1) hx hb dL_isDriven_268 (by decide) ?_
                              refine lv_icmp_ne (tgt := 276) hx hb dL_isDriven_269 (by decide) (fun c_53 => ?_) (fun c_53 => ?_)
                              · have bc_53 : (rsd (rr k) i) = false := bI_n1 (fun z => c_53 (hbt_52.trans z))
                                refine lv_iconst (v := 0) hx hb dL_isDriven_276 (by decide) ?_
                                exact JN_37 _ (by rw [bc_53]; rfl) ls (lv_sub hl [0, 1, 2, 3, 4, 5, 6, 7, 8, 9, 10, 11, 12, 13, 14, 15] rfl)
                              · have bc_53 : (rsd (rr k) i) = true := bI_e1 (hbt_52.symm.trans c_53)
                                refine lv_iconst (v := 1) hx hb dL_isDriven_272 (by decide) ?_
                                refine lv_goto (tgt := 277) hx hb dL_isDriven_273 (by decide) ?_
                                exact JN_37 _ (by rw [bc_53]; rfl) ls (lv_sub hl [0, 1, 2, 3, 4, 5, 6, 7, 8, 9, 10, 11, 12, 13, 14, 15] rfl)
                        exact KK3 (10) 0 (by omega) _ rfl _ (Int32.add_zero _).symm _ (lsI_0 hCn) ls (lv_sub hl [0, 1, 2, 3, 4, 5, 6, 7, 8, 9, 10, 11, 12, 13, 14] rfl)
                      · have nc_17 : ¬ (10 ≤ i) := fun z => c_17 ((wy_ge ei_i (rfl : (10 : Int32) = nI 10) (by omega) (by decide)).mpr z)
                        exact absurd nc_17 (by omega)
                    | succ d2i ih_d2i =>
                      intro i hd_i xi_i ei_i H locs fb wf hw hR2 hwas hwf ls hl
                      refine lv_iload hx hb dL_isDriven_175 (lv_at hl 0 rfl) ?_
                      refine lv_bipush (v := 10) hx hb dL_isDriven_177 (by decide) ?_
                      refine lv_icmp_ge (tgt := 200) hx hb dL_isDriven_179 (by decide) (fun c_54 => ?_) (fun c_54 => ?_)
                      · have nc_54 : 10 ≤ i := (wy_ge ei_i (rfl : (10 : Int32) = nI 10) (by omega) (by decide)).mp c_54
                        exact absurd nc_54 (by omega)
                      · have nc_54 : ¬ (10 ≤ i) := fun z => c_54 ((wy_ge ei_i (rfl : (10 : Int32) = nI 10) (by omega) (by decide)).mpr z)
                        refine lv_aload hx hb dL_isDriven_182 (lv_at hl 1 rfl) ?_
                        refine lv_iload hx hb dL_isDriven_184 (lv_at hl 0 rfl) ?_
                        refine lv_aload_n hx hb dL_isDriven_186 rfl (lv_at hl 8 rfl) ?_
                        refine lv_iload_n hx hb dL_isDriven_187 rfl (lv_at hl 11 rfl) ?_
                        refine lv_iload hx hb dL_isDriven_188 (lv_at hl 0 rfl) ?_
                        refine vp_callSi (W.runV (As := [.int p3, .int xi_i]) (rest := [.int xi_i, .ref aw]) ⟨hx, hb, hml, hown, hts⟩ (r_X1_charge l hq (p3) (xi_i) (k) (i) (by omega) (by omega) e3 ei_i) (cwV 2 hts gL_isDriven_X1_charge rfl rfl rfl (by decide +kernel) ⟨Nat.le_of_ble_eq_true rfl, Nat.le_of_ble_eq_true rfl⟩) (wy_pVR hK hw.1.1 hq.1 rfl) rfl rfl hl.1 rfl (lv_room (Nat.le_of_ble_eq_true rfl)) dL_isDriven_190 ⟨(show 0 + 1 + 0 ≤ 5 by omega), (show 0 + 10 + 0 ≤ 34 by omega)⟩) (fun r_55 er_55 => ?_)
                        subst er_55
                        refine wq_iast hx hb hK hw hwas (i) ei_i (by omega) (by omega) dL_isDriven_193 (fun H locs fa_56 hc_57 hn_58 hw => ?_)
                        obtain ⟨w_59, hw_59⟩ : ∃ y, y = upd wf (i) (rch (rr k) i) := ⟨_, rfl⟩
                        rw [← hw_59] at hc_57
                        have hc_60 := wy_c.ne2 hR2.1 hn_58 hnw_ad
                        have hc_61 := wy_c.ne2 hR2.2.1 hn_58 hnw_av
                        have hc_62 := wy_c.ne2 hR2.2.2.1 hn_58 hnw_ao
                        have hc_63 := wy_c.ne2 hR2.2.2.2.1 hn_58 hnw_af
                        have hc_64 := wy_c.ne2 hR2.2.2.2.2.1 hn_58 hnw_ag
                        obtain ⟨x_65, ex_65⟩ : ∃ y : Int32, y = xi_i + 1 := ⟨_, rfl⟩
                        have nx_65 : x_65 = nI (i + 1) := by rw [ex_65, ei_i, nI_1]
                        refine lv_iinc (v := x_65) (lv' := [(13, .int x_65), (12, .ref aw), (11, .int 1000000000), (10, .int s_s), (9, .int y_14), (8, .int (nI (cb (fun z9 => decide (z9 < 10) && rsd (rr k) z9) 20))), (7, .int (mks (rsd (rr k)))), (6, .int y_1), (0, .ref ox), (1, .ref ad), (2, .ref ag), (3, .int p3), (4, .int p4), (5, .int p5)]) hx hb dL_isDriven_194 hl (k := 0) rfl (by rw [ex_65]; rfl) (by decide) rfl (fun ls hl => ?_)
                        refine lv_goto (tgt := 175) hx hb dL_isDriven_197 (by decide) ?_
                        exact ih_d2i (i + 1) (by omega) _ nx_65 _ _ _ _ hw ⟨hc_60, hc_61, hc_62, hc_63, hc_64, hne⟩ hc_57 (wf_step hwf hw_59 rfl) ls (lv_sub hl [0, 1, 2, 3, 4, 5, 6, 7, 8, 9, 10, 11, 12, 13] rfl)
                  exact KK2 (10) 0 (by omega) _ rfl _ _ _ _ hw ⟨hcw_ad, hcw_av, hcw_ao, hcw_af, hcw_ag, hne⟩ hwas (fun r h => absurd h (by omega)) ls (lv_sub hl [0, 1, 2, 3, 4, 5, 6, 7, 8, 9, 10, 11, 12, 13] rfl)
                · have nc_16 : ¬ (10 ≤ i) := fun z => c_16 ((wy_ge ei_i (rfl : (10 : Int32) = nI 10) (by omega) (by decide)).mpr z)
                  exact absurd nc_16 (by omega)
              | succ di ih_di =>
                intro i hd_i xi_i ei_i s_s hs_s ls hl
                refine lv_iload hx hb dL_isDriven_141 (lv_at hl 0 rfl) ?_
                refine lv_bipush (v := 10) hx hb dL_isDriven_143 (by decide) ?_
                refine lv_icmp_ge (tgt := 166) hx hb dL_isDriven_145 (by decide) (fun c_66 => ?_) (fun c_66 => ?_)
                · have nc_66 : 10 ≤ i := (wy_ge ei_i (rfl : (10 : Int32) = nI 10) (by omega) (by decide)).mp c_66
                  exact absurd nc_66 (by omega)
                · have nc_66 : ¬ (10 ≤ i) := fun z => c_66 ((wy_ge ei_i (rfl : (10 : Int32) = nI 10) (by omega) (by decide)).mpr z)
                  refine lv_iload hx hb dL_isDriven_148 (lv_at hl 2 rfl) ?_
                  refine lv_aload_n hx hb dL_isDriven_150 rfl (lv_at hl 7 rfl) ?_
                  refine lv_iload_n hx hb dL_isDriven_151 rfl (lv_at hl 10 rfl) ?_
                  refine lv_iload hx hb dL_isDriven_152 (lv_at hl 0 rfl) ?_
                  refine vp_callSi (W.runV (As := [.int p3, .int xi_i]) (rest := [.int s_s]) ⟨hx, hb, hml, hown, hts⟩ (r_X1_charge l hq (p3) (xi_i) (k) (i) (by omega) (by omega) e3 ei_i) (cwV 2 hts gL_isDriven_X1_charge rfl rfl rfl (by decide +kernel) ⟨Nat.le_of_ble_eq_true rfl, Nat.le_of_ble_eq_true rfl⟩) (wy_pVR hK hw.1.1 hq.1 rfl) rfl rfl hl.1 rfl (lv_room (Nat.le_of_ble_eq_true rfl)) dL_isDriven_154 ⟨(show 0 + 0 ≤ 5 by omega), (show 0 + 0 ≤ 34 by omega)⟩) (fun r_67 er_67 => ?_)
                  subst er_67
                  refine lv_isub hx hb dL_isDriven_157 ?_
                  refine lv_topi (fun x_68 ex_68 => ?_)
                  refine lv_istore (lv' := [(10, .int x_68), (12, .int xi_i), (11, .int 1000000000), (9, .int y_14), (8, .int (nI (cb (fun z9 => decide (z9 < 10) && rsd (rr k) z9) 20))), (7, .int (mks (rsd (rr k)))), (6, .int y_1), (0, .ref ox), (1, .ref ad), (2, .ref ag), (3, .int p3), (4, .int p4), (5, .int p5)]) hx hb dL_isDriven_158 hl (by decide) rfl (fun ls hl => ?_)
                  obtain ⟨x_69, ex_69⟩ : ∃ y : Int32, y = xi_i + 1 := ⟨_, rfl⟩
                  have nx_69 : x_69 = nI (i + 1) := by rw [ex_69, ei_i, nI_1]
                  refine lv_iinc (v := x_69) (lv' := [(12, .int x_69), (10, .int x_68), (11, .int 1000000000), (9, .int y_14), (8, .int (nI (cb (fun z9 => decide (z9 < 10) && rsd (rr k) z9) 20))), (7, .int (mks (rsd (rr k)))), (6, .int y_1), (0, .ref ox), (1, .ref ad), (2, .ref ag), (3, .int p3), (4, .int p4), (5, .int p5)]) hx hb dL_isDriven_160 hl (k := 1) rfl (by rw [ex_69]; rfl) (by decide) rfl (fun ls hl => ?_)
                  refine lv_goto (tgt := 141) hx hb dL_isDriven_163 (by decide) ?_
                  exact ih_di (i + 1) (by omega) _ nx_69 _ (by rw [ex_68, hs_s]; exact wy_subadd _ _ _) ls (lv_sub hl [0, 2, 1, 3, 4, 5, 6, 7, 8, 9, 10, 11, 12] rfl)
            exact KK_i (10) 0 (by omega) _ rfl _ (by show (0 : Int32) = 0 - 0; decide) ls (lv_sub hl [0, 1, 2, 3, 4, 5, 6, 7, 8, 9, 10, 11, 12] rfl)
          refine lv_iload hx hb dL_isDriven_107 (lv_at hl 0 rfl) ?_
          refine lv_if_ne (tgt := 116) hx hb dL_isDriven_109 (by decide) (fun c_70 => ?_) (fun c_70 => ?_)
          · refine lv_iload hx hb dL_isDriven_116 (lv_at hl 7 rfl) ?_
            refine lv_aload_n hx hb dL_isDriven_118 rfl (lv_at hl 5 rfl) ?_
            refine lv_iconst (v := 2) hx hb dL_isDriven_119 (by decide) ?_
            refine wy_iald hx hb hK hw.2.1.1 hR.2.2.2.2.1 (2) (rfl : (2 : Int32) = nI 2) (by omega) (by omega) dL_isDriven_120 ?_
            refine lv_imul hx hb dL_isDriven_121 ?_
            refine lv_topi (fun x_71 ex_71 => ?_)
            refine lv_iload hx hb dL_isDriven_122 (lv_at hl 8 rfl) ?_
            refine lv_aload_n hx hb dL_isDriven_124 rfl (lv_at hl 5 rfl) ?_
            refine lv_iconst (v := 3) hx hb dL_isDriven_125 (by decide) ?_
            refine wy_iald hx hb hK hw.2.1.1 hR.2.2.2.2.1 (3) (rfl : (3 : Int32) = nI 3) (by omega) (by omega) dL_isDriven_126 ?_
            refine lv_imul hx hb dL_isDriven_127 ?_
            refine lv_topi (fun x_72 ex_72 => ?_)
            refine lv_iadd hx hb dL_isDriven_128 ?_
            refine lv_topi (fun x_73 ex_73 => ?_)
            exact JN_15 _ (by rw [if_neg (m_nz c_70), ex_73, ex_72, ex_71, hB.2.2.2.2.2.2.2.2.1, hB.2.2.2.2.2.2.2.2.2.1]) ls (lv_sub hl [0, 1, 2, 3, 4, 5, 6, 7, 8] rfl)
          · refine lv_iconst (v := 0) hx hb dL_isDriven_112 (by decide) ?_
            refine lv_goto (tgt := 129) hx hb dL_isDriven_113 (by decide) ?_
            exact JN_15 _ (by rw [if_pos (m_z c_70)]) ls (lv_sub hl [0, 1, 2, 3, 4, 5, 6, 7, 8] rfl)
        · have bc_11 : (rfi (rr k)) = true := bI_e1 ((hB.2.1 (k) (by omega)).symm.trans c_11)
          refine lv_aload_n hx hb dL_isDriven_48 rfl (lv_at hl 1 rfl) ?_
          refine lv_bipush (v := 6) hx hb dL_isDriven_49 (by decide) ?_
          refine lv_iload_n hx hb dL_isDriven_51 rfl (lv_at hl 4 rfl) ?_
          refine lv_iload hx hb dL_isDriven_52 (lv_at hl 5 rfl) ?_
          refine lv_iload hx hb dL_isDriven_54 (lv_at hl 6 rfl) ?_
          refine lv_iconst (v := 0) hx hb dL_isDriven_56 (by decide) ?_
          have hix_75 : ix p3 = k := by rw [e3]; exact ix_nI (by omega)
          have hC_74 : dvC n p3 p4 p5 (rfi (rr (ix p3))) = 3 := by rw [hix_75]; exact dvC_3 (okN_of e3 (by omega) (by omega)) e4 e5 (by omega) (by omega) bc_6 bc_11
          refine wq_call0 (vx_runSX (As := [.ref ox, .int 6, .int p3, .int p4, .int p5, .int (bI false)]) (rest := []) ⟨hx, hb, hml, hown, hts⟩ (m_L_does_drive l hnt (fa := fa) hq (p3) (p4) (p5) (false)) (vx_cwSW 6 hts gL_isDriven_L_does rfl rfl rfl (by decide +kernel) ⟨Nat.le_of_ble_eq_true rfl, Nat.le_of_ble_eq_true rfl⟩) (wq_pre0 hK hE hZ hN hw hA) rfl rfl hl.1 rfl (lv_room (Nat.le_of_ble_eq_true rfl)) dL_isDriven_57 ⟨(show 0 + 4 ≤ 5 by omega), (show 0 + 24 ≤ 34 by omega)⟩) hw hA (fun r_74 L_74 f_74 fx_74 H locs hp hw => ?_)
          obtain ⟨er, hq⟩ := wd_er hp (by rw [hC_74]; decide) hq
          have er : r_74 = .int (-10) := er.trans (congrArg Value.int (by rw [hC_74]; decide))
          subst er
          refine lv_iload_n hx hb dL_isDriven_60 rfl (lv_at hl 4 rfl) ?_
          refine lv_aload_n hx hb dL_isDriven_61 rfl (lv_at hl 3 rfl) ?_
          refine lv_iconst (v := 0) hx hb dL_isDriven_62 (by decide) ?_
          refine wy_iald hx hb hK hw.2.1.1 hR.2.2.2.2.1 (0) (rfl : (0 : Int32) = nI 0) (by omega) (by omega) dL_isDriven_63 ?_
          refine lv_icmp_lt (tgt := 72) hx hb dL_isDriven_64 (by decide) (fun _ => ?_) (fun z => absurd (((wy_lt e3 hB.2.2.2.2.2.2.1 (by omega) (by omega)).mpr (by omega))) z)
          refine lv_iload hx hb dL_isDriven_72 (lv_at hl 0 rfl) ?_
          refine lv_if_eq (tgt := 82) hx hb dL_isDriven_74 (by decide) (fun c_76 => ?_) (fun c_76 => ?_)
          · have bc_76 : (rgtB a b) = false := bI_0 (hy_1.symm.trans c_76)
            exact absurd (bc_6.symm.trans bc_76) (by decide)
          · have bc_76 : (rgtB a b) = true := bI_1 (fun z => c_76 (hy_1.trans z))
            refine lv_bipush (v := (-10)) hx hb dL_isDriven_77 (by decide) ?_
            refine lv_goto (tgt := 84) hx hb dL_isDriven_79 (by decide) ?_
            refine lv_icmp_ne (tgt := 91) hx hb dL_isDriven_84 (by decide) (fun z => absurd z (by decide)) (fun _ => ?_)
            refine lv_iconst (v := 1) hx hb dL_isDriven_87 (by decide) ?_
            refine lv_goto (tgt := 92) hx hb dL_isDriven_88 (by decide) ?_
            exact wq_zret (b := true) rfl hx hb hr hlocks dL_isDriven_92 hw (show 0 + 4 ≤ 5 by omega) (show 0 + 24 ≤ 34 by omega) ⟨rfl, ra, ar, n, km, mn, wk, po, rr, d, v, o, fr, g, hq, ⟨hR.1, hR.2.1, hR.2.2.1, hR.2.2.2.1, hR.2.2.2.2.1, hne⟩, hJ.up, hB⟩
  refine lv_iload hx hb dL_isDriven_0 (lv_at hl 4 rfl) ?_
  refine lv_bipush (v := 100) hx hb dL_isDriven_2 (by decide) ?_
  refine lv_icmp_gt (tgt := 23) hx hb dL_isDriven_4 (by decide) (fun c_77 => ?_) (fun c_77 => ?_)
  · have nc_77 : 100 < a := (wy_gt e4 (rfl : (100 : Int32) = nI 100) (by omega) (by decide)).mp c_77
    refine lv_iconst (v := 0) hx hb dL_isDriven_23 (by decide) ?_
    exact JN_2 _ (rgt_0 (by omega)) ls (lv_sub hl [0, 1, 2, 3, 4, 5] rfl)
  · have nc_77 : ¬ (100 < a) := fun z => c_77 ((wy_gt e4 (rfl : (100 : Int32) = nI 100) (by omega) (by decide)).mpr z)
    refine lv_iload hx hb dL_isDriven_7 (lv_at hl 5 rfl) ?_
    refine lv_if_le (tgt := 23) hx hb dL_isDriven_9 (by decide) (fun c_78 => ?_) (fun c_78 => ?_)
    · have hb9 : b = 0 := n_le0 e5 (by omega) c_78
      refine lv_iconst (v := 0) hx hb dL_isDriven_23 (by decide) ?_
      exact JN_2 _ (rgt_0 (by omega)) ls (lv_sub hl [0, 1, 2, 3, 4, 5] rfl)
    · have hb9 : 0 < b := n_gt0 e5 (by omega) c_78
      refine lv_iload hx hb dL_isDriven_12 (lv_at hl 5 rfl) ?_
      refine lv_bipush (v := 120) hx hb dL_isDriven_14 (by decide) ?_
      refine lv_icmp_gt (tgt := 23) hx hb dL_isDriven_16 (by decide) (fun c_79 => ?_) (fun c_79 => ?_)
      · have nc_79 : 120 < b := (wy_gt e5 (rfl : (120 : Int32) = nI 120) (by omega) (by decide)).mp c_79
        refine lv_iconst (v := 0) hx hb dL_isDriven_23 (by decide) ?_
        exact JN_2 _ (rgt_0 (by omega)) ls (lv_sub hl [0, 1, 2, 3, 4, 5] rfl)
      · have nc_79 : ¬ (120 < b) := fun z => c_79 ((wy_gt e5 (rfl : (120 : Int32) = nI 120) (by omega) (by decide)).mpr z)
        refine lv_iconst (v := 1) hx hb dL_isDriven_19 (by decide) ?_
        refine lv_goto (tgt := 24) hx hb dL_isDriven_20 (by decide) ?_
        exact JN_2 _ (rgt_1 ⟨by omega, by omega, by omega⟩) ls (lv_sub hl [0, 1, 2, 3, 4, 5] rfl)
