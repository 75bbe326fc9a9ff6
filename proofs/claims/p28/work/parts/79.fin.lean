set_option maxHeartbeats 4000000 in
set_option maxRecDepth 100000 in
theorem m_L_isFinished (l : Launch) (hnt : l.stackTraces = false) {G : wy_G} {L0 La : List Nat} {f0 fa : Nat → va_E} {sz : Nat} {ox lo : Nat} {ra ar : Nat → Nat} {t n : Nat} {km mn : Int32} {wk : Nat} {po : Nat → Int32} {rr : Nat → wr_V} {ad av ao af ag : Nat} {d v o fr g : Nat → Int32} (hq : wx_S G L0 f0 ox lo ra ar n km mn wk po rr) (hR : wR G La fa ad av ao af ag d v o fr g) (hJ : wJ t n km mn wk po rr) (hB : wB n km mn wk rr d v o fr g) (ht : t ≤ 80) (p4 : Int32) (k : Nat) (hk : k ≤ n) (e4 : p4 = nI k) : Met l yL_isFinished wsL_isFinished ({ frames := 9, cells := 2, slots := 12, locals := 151 } : Room) (va_Pc [.ref ox, .ref ad, .ref av, .ref ag, .int p4] (wq_P G L0 f0 La fa sz)) (wq_Q G L0 La sz (fun r1 L1 f1 fa1 => r1 = .int (bI true) ∧ wZ G ox lo ad av ao af ag La (t + 1) L1 f1 fa1)) 2 12 (wy_A (L0 ++ La) sz) := by
  refine Met.ofW (cc := cL_isFinished) (maxL := 7) (ret := (some .boolean)) (by decide) rfl ?_
  intro p e s m args below meth c s₁ B hml hv
  obtain ⟨rfl, hP⟩ := hv
  obtain ⟨hw, hK, hA⟩ := wq_start hP
  obtain ⟨hv, -, -, hE, hZ, hN⟩ := hP
  have hsz := hv.1
  subst hsz
  have hx := B.exec
  have hb := B.bytes
  have hr := B.returns
  have hts := atoms_spec (ws := wsL_isFinished) B.pre
  have hown : s.vm.findClass RL = some m.cls := findClass_of_methodNamed B.named
  have hlocks := B.notSynchronized
  have hn20 : n ≤ 20 := hJ.2.1
  have hwk20 : wk ≤ 20 := hJ.2.2.1
  have hne := hR.2.2.2.2.2
  have hl := lv_entry ([.ref ox, .ref ad, .ref av, .ref ag, .int p4]) (n := 7) (Nat.le_of_ble_eq_true rfl)
  rw [lg_entry_eq]
  generalize (lg_sl ([.ref ox, .ref ad, .ref av, .ref ag, .int p4]) ++ List.replicate (7 - (lg_sl ([.ref ox, .ref ad, .ref av, .ref ag, .int p4])).length) Slot.unset).toArray = ls at hl ⊢
  have hl : lv_has ls 7 [(0, .ref ox), (1, .ref ad), (2, .ref av), (3, .ref ag), (4, .int p4)] := hl
  refine lv_iload hx hb dL_isFinished_0 (lv_at hl 4 rfl) ?_
  refine lv_aload_n hx hb dL_isFinished_2 rfl (lv_at hl 3 rfl) ?_
  refine lv_iconst (v := 0) hx hb dL_isFinished_3 (by decide) ?_
  refine wy_iald hx hb hK hw.2.1.1 hR.2.2.2.2.1 (0) (rfl : (0 : Int32) = nI 0) (by omega) (by omega) dL_isFinished_4 ?_
  refine lv_icmp_ge (tgt := 19) hx hb dL_isFinished_5 (by decide) (fun c_1 => ?_) (fun c_1 => ?_)
  · have nc_1 : n ≤ k := (wy_ge e4 hB.2.2.2.2.2.2.1 (by omega) (by omega)).mp c_1
    refine lv_aload_n hx hb dL_isFinished_19 rfl (lv_at hl 0 rfl) ?_
    refine lv_bipush (v := 7) hx hb dL_isFinished_20 (by decide) ?_
    refine lv_iload hx hb dL_isFinished_22 (lv_at hl 4 rfl) ?_
    refine lv_iconst (v := 0) hx hb dL_isFinished_24 (by decide) ?_
    refine lv_iconst (v := 0) hx hb dL_isFinished_25 (by decide) ?_
    refine lv_iconst (v := 0) hx hb dL_isFinished_26 (by decide) ?_
    have hix_3 : ix p4 = k := by rw [e4]; exact ix_nI (by omega)
    have hC_2 : fnC n p4 (rfi (rr (ix p4))) = 1 := by exact fnC_o (by rw [e4]; exact okN_out (by omega) (by omega))
    refine wq_call0 (vx_runSX (As := [.ref ox, .int 7, .int p4, .int 0, .int 0, .int (bI false)]) (rest := []) ⟨hx, hb, hml, hown, hts⟩ (m_L_does_finish l hnt (fa := fa) hq (p4) (0) (0) (false)) (vx_cwSW 6 hts gL_isFinished_L_does rfl rfl rfl (by decide +kernel) ⟨Nat.le_of_ble_eq_true rfl, Nat.le_of_ble_eq_true rfl⟩) (wq_pre0 hK hE hZ hN hw hA) rfl rfl hl.1 rfl (lv_room (Nat.le_of_ble_eq_true rfl)) dL_isFinished_27 ⟨(show 0 + 2 ≤ 2 by omega), (show 0 + 12 ≤ 12 by omega)⟩) hw hA (fun r_2 L_2 f_2 fx_2 H locs hp hw => ?_)
    obtain ⟨er, hq⟩ := wd_er hp (by rw [hC_2]; decide) hq
    have er : r_2 = .int (-30) := er.trans (congrArg Value.int (by rw [hC_2]; decide))
    subst er
    refine lv_iload hx hb dL_isFinished_30 (lv_at hl 4 rfl) ?_
    refine lv_aload_n hx hb dL_isFinished_32 rfl (lv_at hl 3 rfl) ?_
    refine lv_iconst (v := 0) hx hb dL_isFinished_33 (by decide) ?_
    refine wy_iald hx hb hK hw.2.1.1 hR.2.2.2.2.1 (0) (rfl : (0 : Int32) = nI 0) (by omega) (by omega) dL_isFinished_34 ?_
    refine lv_icmp_lt (tgt := 43) hx hb dL_isFinished_35 (by decide) (fun z => absurd z ((fun z => absurd ((wy_lt e4 hB.2.2.2.2.2.2.1 (by omega) (by omega)).mp z) (by omega) : ¬ p4 < g 0))) (fun _ => ?_)
    refine lv_bipush (v := (-30)) hx hb dL_isFinished_38 (by decide) ?_
    refine lv_goto (tgt := 45) hx hb dL_isFinished_40 (by decide) ?_
    refine lv_icmp_ne (tgt := 52) hx hb dL_isFinished_45 (by decide) (fun z => absurd z (by decide)) (fun _ => ?_)
    refine lv_iconst (v := 1) hx hb dL_isFinished_48 (by decide) ?_
    refine lv_goto (tgt := 53) hx hb dL_isFinished_49 (by decide) ?_
    exact wq_zret (b := true) rfl hx hb hr hlocks dL_isFinished_53 hw (show 0 + 2 ≤ 2 by omega) (show 0 + 12 ≤ 12 by omega) ⟨rfl, ra, ar, n, km, mn, wk, po, rr, d, v, o, fr, g, hq, ⟨hR.1, hR.2.1, hR.2.2.1, hR.2.2.2.1, hR.2.2.2.2.1, hne⟩, hJ.up, hB⟩
  · have nc_1 : ¬ (n ≤ k) := fun z => c_1 ((wy_ge e4 hB.2.2.2.2.2.2.1 (by omega) (by omega)).mpr z)
    refine lv_aload_n hx hb dL_isFinished_8 rfl (lv_at hl 1 rfl) ?_
    refine lv_bipush (v := 20) hx hb dL_isFinished_9 (by decide) ?_
    refine lv_iload hx hb dL_isFinished_11 (lv_at hl 4 rfl) ?_
    refine lv_iadd hx hb dL_isFinished_13 ?_
    refine lv_topi (fun x_4 ex_4 => ?_)
    have nx_4 : x_4 = nI (20 + k) := ex_4.trans ((congr (congrArg (fun u v : Int32 => u + v) (rfl : (20 : Int32) = nI 20)) e4).trans (nI_add _ _))
    refine wy_iald hx hb hK hw.2.1.1 hR.1 (20 + k) nx_4 (by omega) (by omega) dL_isFinished_14 ?_
    refine lv_iconst (v := 1) hx hb dL_isFinished_15 (by decide) ?_
    refine lv_icmp_ne (tgt := 54) hx hb dL_isFinished_16 (by decide) (fun c_5 => ?_) (fun c_5 => ?_)
    · have bc_5 : (rfi (rr k)) = false := bI_n1 (fun z => c_5 ((hB.2.1 (k) (by omega)).trans z))
      refine lv_sipush (v := 400) hx hb dL_isFinished_54 (by decide) ?_
      refine lv_aload_n hx hb dL_isFinished_57 rfl (lv_at hl 2 rfl) ?_
      refine lv_iload hx hb dL_isFinished_58 (lv_at hl 4 rfl) ?_
      refine wy_iald hx hb hK hw.2.1.1 hR.2.1 (k) e4 (by omega) (by omega) dL_isFinished_60 ?_
      refine vp_callSi (W.runS (As := [.int (v k)]) (rest := [.int 400]) ⟨hx, hb, hml, hown, hts⟩ (m_L_bits l (fun z9 => decide (z9 < 10) && (!rfi (rr k) && rbk (rr k) z9)) (v k) (fun i hi => by rw [hB.vk (by omega)]; exact vmk_bt _ (by omega))) (va_cwS 1 hts gL_isFinished_L_bits rfl rfl rfl (by decide +kernel) ⟨Nat.le_of_ble_eq_true rfl, Nat.le_of_ble_eq_true rfl⟩) wy_pSN rfl rfl hl.1 rfl (lv_room (Nat.le_of_ble_eq_true rfl)) dL_isFinished_61 ⟨(show 0 + 0 ≤ 2 by omega), (show 0 + 0 ≤ 12 by omega)⟩) (fun r_6 er_6 => ?_)
      subst er_6
      refine lv_imul hx hb dL_isFinished_64 ?_
      refine lv_topi (fun x_7 ex_7 => ?_)
      have nx_7 : x_7 = nI (400 * (cb (fun z9 => decide (z9 < 10) && (!rfi (rr k) && rbk (rr k) z9)) 20)) := ex_7.trans ((congr (congrArg (fun u v : Int32 => u * v) (rfl : (400 : Int32) = nI 400)) rfl).trans (pk_mul _ _))
      refine lv_istore (lv' := [(5, .int x_7), (0, .ref ox), (1, .ref ad), (2, .ref av), (3, .ref ag), (4, .int p4)]) hx hb dL_isFinished_65 hl (by decide) rfl (fun ls hl => ?_)
      refine lv_iconst (v := 0) hx hb dL_isFinished_67 (by decide) ?_
      refine lv_istore (lv' := [(6, .int 0), (5, .int x_7), (0, .ref ox), (1, .ref ad), (2, .ref av), (3, .ref ag), (4, .int p4)]) hx hb dL_isFinished_68 hl (by decide) rfl (fun ls hl => ?_)
      have KK_j : ∀ (dj j : Nat), j + dj = 10 → ∀ (xi_j : Int32), xi_j = nI (j) → ∀ (s_s : Int32), s_s = 400 * nI (cb (fun z9 => decide (z9 < 10) && (!rfi (rr k) && rbk (rr k) z9)) 20) + bx_sum (rch (rr k)) j → ∀ ls : Array Slot, lv_has ls 7 [(6, .int xi_j), (5, .int s_s), (0, .ref ox), (1, .ref ad), (2, .ref av), (3, .ref ag), (4, .int p4)] → W p l e (headSpec wsL_isFinished ({ frames := 9, cells := 2, slots := 12, locals := 151 } : Room)).room s m ([.ref ox, .ref ad, .ref av, .ref ag, .int p4] : List Value).toArray below meth c s.heap [] (0) (0) (MQ below (wq_Q G L0 La s.heap.size (fun r1 L1 f1 fa1 => r1 = .int (bI true) ∧ wZ G ox lo ad av ao af ag La (t + 1) L1 f1 fa1)) ([.ref ox, .ref ad, .ref av, .ref ag, .int p4] : List Value).toArray s 2 12 (wy_A (L0 ++ La) s.heap.size)) (F0 m 70 ls []) := by
        intro dj
        induction dj with
        | zero =>
          intro j hd_j xi_j ei_j s_s hs_s ls hl
          refine lv_iload hx hb dL_isFinished_70 (lv_at hl 0 rfl) ?_
          refine lv_bipush (v := 10) hx hb dL_isFinished_72 (by decide) ?_
          refine lv_icmp_ge (tgt := 96) hx hb dL_isFinished_74 (by decide) (fun c_8 => ?_) (fun c_8 => ?_)
          · have nc_8 : 10 ≤ j := (wy_ge ei_j (rfl : (10 : Int32) = nI 10) (by omega) (by decide)).mp c_8
            obtain rfl : 10 = j := by omega
            refine lv_aload_n hx hb dL_isFinished_96 rfl (lv_at hl 4 rfl) ?_
            refine lv_iload hx hb dL_isFinished_97 (lv_at hl 6 rfl) ?_
            refine lv_iconst (v := 0) hx hb dL_isFinished_99 (by decide) ?_
            refine wq_iast hx hb hK hw hR.2.1 (k) e4 (by omega) (by omega) dL_isFinished_100 (fun H locs fa_9 hc_10 hn_11 hw => ?_)
            obtain ⟨v_12, hv_12⟩ : ∃ y, y = upd v (k) (0) := ⟨_, rfl⟩
            rw [← hv_12] at hc_10
            have hc_13 := wy_c.ne2 hR.1 hn_11 hne.1
            have hc_14 := wy_c.ne2 hR.2.2.1 hn_11 (Ne.symm hne.2.2.2.2.1)
            have hc_15 := wy_c.ne2 hR.2.2.2.1 hn_11 (Ne.symm hne.2.2.2.2.2.1)
            have hc_16 := wy_c.ne2 hR.2.2.2.2.1 hn_11 (Ne.symm hne.2.2.2.2.2.2.1)
            refine lv_aload_n hx hb dL_isFinished_101 rfl (lv_at hl 3 rfl) ?_
            refine lv_bipush (v := 20) hx hb dL_isFinished_102 (by decide) ?_
            refine lv_iload hx hb dL_isFinished_104 (lv_at hl 6 rfl) ?_
            refine lv_iadd hx hb dL_isFinished_106 ?_
            refine lv_topi (fun x_17 ex_17 => ?_)
            have nx_17 : x_17 = nI (20 + k) := ex_17.trans ((congr (congrArg (fun u v : Int32 => u + v) (rfl : (20 : Int32) = nI 20)) e4).trans (nI_add _ _))
            refine lv_iconst (v := 1) hx hb dL_isFinished_107 (by decide) ?_
            refine wq_iast hx hb hK hw hc_13 (20 + k) nx_17 (by omega) (by omega) dL_isFinished_108 (fun H locs fa_18 hc_19 hn_20 hw => ?_)
            obtain ⟨d_21, hd_21⟩ : ∃ y, y = upd d (20 + k) (1) := ⟨_, rfl⟩
            rw [← hd_21] at hc_19
            have hc_22 := wy_c.ne2 hc_10 hn_20 (Ne.symm hne.1)
            have hc_23 := wy_c.ne2 hc_14 hn_20 (Ne.symm hne.2.1)
            have hc_24 := wy_c.ne2 hc_15 hn_20 (Ne.symm hne.2.2.1)
            have hc_25 := wy_c.ne2 hc_16 hn_20 (Ne.symm hne.2.2.2.1)
            refine lv_aload_n hx hb dL_isFinished_109 rfl (lv_at hl 2 rfl) ?_
            refine lv_bipush (v := 7) hx hb dL_isFinished_110 (by decide) ?_
            refine lv_iload hx hb dL_isFinished_112 (lv_at hl 6 rfl) ?_
            refine lv_iconst (v := 0) hx hb dL_isFinished_114 (by decide) ?_
            refine lv_iconst (v := 0) hx hb dL_isFinished_115 (by decide) ?_
            refine lv_iconst (v := 0) hx hb dL_isFinished_116 (by decide) ?_
            have hix_27 : ix p4 = k := by rw [e4]; exact ix_nI (by omega)
            have hC_26 : fnC n p4 (rfi (rr (ix p4))) = 0 := by rw [hix_27]; exact fnC_ok (okN_of e4 (by omega) (by omega)) bc_5
            refine wq_call0 (vx_runSX (As := [.ref ox, .int 7, .int p4, .int 0, .int 0, .int (bI false)]) (rest := []) ⟨hx, hb, hml, hown, hts⟩ (m_L_does_finish l hnt (fa := fa_18) hq (p4) (0) (0) (false)) (vx_cwSW 6 hts gL_isFinished_L_does rfl rfl rfl (by decide +kernel) ⟨Nat.le_of_ble_eq_true rfl, Nat.le_of_ble_eq_true rfl⟩) (wq_pre0 hK hE hZ hN hw hA) rfl rfl hl.1 rfl (lv_room (Nat.le_of_ble_eq_true rfl)) dL_isFinished_117 ⟨(show 0 + 2 ≤ 2 by omega), (show 0 + 12 ≤ 12 by omega)⟩) hw hA (fun r_26 L_26 f_26 fx_26 H locs hp hw => ?_)
            obtain ⟨er, ra, ar, hq⟩ := wd_ok hp hC_26
            simp only [hix_27] at er hq
            subst er
            obtain ⟨rr_28, hrr_28⟩ : ∃ y : Nat → wr_V, y = va_up rr (k) (vEnd (rr (k))) := ⟨_, rfl⟩
            rw [← hrr_28] at hq
            refine lv_iload hx hb dL_isFinished_120 (lv_at hl 1 rfl) ?_
            refine lv_icmp_ne (tgt := 147) hx hb dL_isFinished_122 (by decide) (fun z => absurd ((P_end bc_5).trans hs_s.symm) z) (fun _ => ?_)
            refine lv_aload_n hx hb dL_isFinished_125 rfl (lv_at hl 2 rfl) ?_
            refine lv_iload hx hb dL_isFinished_126 (lv_at hl 6 rfl) ?_
            refine vp_callSi (W.runV (As := [.int p4]) (rest := []) ⟨hx, hb, hml, hown, hts⟩ (r_X1_aboard l hq (p4) (k) (by omega) e4) (cwV 1 hts gL_isFinished_X1_aboard rfl rfl rfl (by decide +kernel) ⟨Nat.le_of_ble_eq_true rfl, Nat.le_of_ble_eq_true rfl⟩) (wy_pVR hK hw.1.1 hq.1 rfl) rfl rfl hl.1 rfl (lv_room (Nat.le_of_ble_eq_true rfl)) dL_isFinished_128 ⟨(show 0 + 2 + 0 ≤ 2 by omega), (show 0 + 12 + 0 ≤ 12 by omega)⟩) (fun r_29 er_29 => ?_)
            subst er_29
            refine lv_if_ne (tgt := 147) hx hb dL_isFinished_131 (by decide) (fun z => absurd ((by rw [hrr_28, va_up_self]; exact mks_0 : mks (rsd (rr_28 k)) = 0)) z) (fun _ => ?_)
            refine lv_aload_n hx hb dL_isFinished_134 rfl (lv_at hl 2 rfl) ?_
            refine lv_iload hx hb dL_isFinished_135 (lv_at hl 6 rfl) ?_
            refine vp_callSi (W.runV (As := [.int p4]) (rest := []) ⟨hx, hb, hml, hown, hts⟩ (r_X1_isVoid l hq (p4) (k) (by omega) e4) (cwV 1 hts gL_isFinished_X1_isVoid rfl rfl rfl (by decide +kernel) ⟨Nat.le_of_ble_eq_true rfl, Nat.le_of_ble_eq_true rfl⟩) (wy_pVR hK hw.1.1 hq.1 rfl) rfl rfl hl.1 rfl (lv_room (Nat.le_of_ble_eq_true rfl)) dL_isFinished_137 ⟨(show 0 + 2 + 0 ≤ 2 by omega), (show 0 + 12 + 0 ≤ 12 by omega)⟩) (fun r_30 er_30 => ?_)
            subst er_30
            refine lv_if_ne (tgt := 147) hx hb dL_isFinished_140 (by decide) (fun z => absurd ((by rw [hrr_28, va_up_self]; exact P_nv hJ (by omega) bc_5 : bI (voidR (rr_28 k)) = 0)) z) (fun _ => ?_)
            refine lv_iconst (v := 1) hx hb dL_isFinished_143 (by decide) ?_
            refine lv_goto (tgt := 148) hx hb dL_isFinished_144 (by decide) ?_
            exact wq_zret (b := true) rfl hx hb hr hlocks dL_isFinished_148 hw (show 0 + 2 ≤ 2 by omega) (show 0 + 12 ≤ 12 by omega) ⟨rfl, ra, ar, n, km, mn, wk, po, rr_28, d_21, v_12, o, fr, g, hq, ⟨hc_19, hc_22, hc_23, hc_24, hc_25, hne⟩, (by rw [hrr_28]; exact J_end hJ ht (by omega) bc_5), (by rw [hrr_28]; exact B_end hB (by omega) hn20 hd_21 hv_12)⟩
          · have nc_8 : ¬ (10 ≤ j) := fun z => c_8 ((wy_ge ei_j (rfl : (10 : Int32) = nI 10) (by omega) (by decide)).mpr z)
            exact absurd nc_8 (by omega)
        | succ dj ih_dj =>
          intro j hd_j xi_j ei_j s_s hs_s ls hl
          refine lv_iload hx hb dL_isFinished_70 (lv_at hl 0 rfl) ?_
          refine lv_bipush (v := 10) hx hb dL_isFinished_72 (by decide) ?_
          refine lv_icmp_ge (tgt := 96) hx hb dL_isFinished_74 (by decide) (fun c_31 => ?_) (fun c_31 => ?_)
          · have nc_31 : 10 ≤ j := (wy_ge ei_j (rfl : (10 : Int32) = nI 10) (by omega) (by decide)).mp c_31
            exact absurd nc_31 (by omega)
          · have nc_31 : ¬ (10 ≤ j) := fun z => c_31 ((wy_ge ei_j (rfl : (10 : Int32) = nI 10) (by omega) (by decide)).mpr z)
            refine lv_iload hx hb dL_isFinished_77 (lv_at hl 1 rfl) ?_
            refine lv_aload_n hx hb dL_isFinished_79 rfl (lv_at hl 2 rfl) ?_
            refine lv_iload hx hb dL_isFinished_80 (lv_at hl 6 rfl) ?_
            refine lv_iload hx hb dL_isFinished_82 (lv_at hl 0 rfl) ?_
            refine vp_callSi (W.runV (As := [.int p4, .int xi_j]) (rest := [.int s_s]) ⟨hx, hb, hml, hown, hts⟩ (r_X1_charge l hq (p4) (xi_j) (k) (j) (by omega) (by omega) e4 ei_j) (cwV 2 hts gL_isFinished_X1_charge rfl rfl rfl (by decide +kernel) ⟨Nat.le_of_ble_eq_true rfl, Nat.le_of_ble_eq_true rfl⟩) (wy_pVR hK hw.1.1 hq.1 rfl) rfl rfl hl.1 rfl (lv_room (Nat.le_of_ble_eq_true rfl)) dL_isFinished_84 ⟨(show 0 + 0 ≤ 2 by omega), (show 0 + 0 ≤ 12 by omega)⟩) (fun r_32 er_32 => ?_)
            subst er_32
            refine lv_iadd hx hb dL_isFinished_87 ?_
            refine lv_topi (fun x_33 ex_33 => ?_)
            refine lv_istore (lv' := [(5, .int x_33), (6, .int xi_j), (0, .ref ox), (1, .ref ad), (2, .ref av), (3, .ref ag), (4, .int p4)]) hx hb dL_isFinished_88 hl (by decide) rfl (fun ls hl => ?_)
            obtain ⟨x_34, ex_34⟩ : ∃ y : Int32, y = xi_j + 1 := ⟨_, rfl⟩
            have nx_34 : x_34 = nI (j + 1) := by rw [ex_34, ei_j, nI_1]
            refine lv_iinc (v := x_34) (lv' := [(6, .int x_34), (5, .int x_33), (0, .ref ox), (1, .ref ad), (2, .ref av), (3, .ref ag), (4, .int p4)]) hx hb dL_isFinished_90 hl (k := 1) rfl (by rw [ex_34]; rfl) (by decide) rfl (fun ls hl => ?_)
            refine lv_goto (tgt := 70) hx hb dL_isFinished_93 (by decide) ?_
            exact ih_dj (j + 1) (by omega) _ nx_34 _ (by rw [ex_33, hs_s, Int32.add_assoc]; rfl) ls (lv_sub hl [0, 1, 2, 3, 4, 5, 6] rfl)
      exact KK_j (10) 0 (by omega) _ rfl _ (by rw [ex_7]; exact (Int32.add_zero _).symm) ls (lv_sub hl [0, 1, 2, 3, 4, 5, 6] rfl)
    · have bc_5 : (rfi (rr k)) = true := bI_e1 ((hB.2.1 (k) (by omega)).symm.trans c_5)
      refine lv_aload_n hx hb dL_isFinished_19 rfl (lv_at hl 0 rfl) ?_
      refine lv_bipush (v := 7) hx hb dL_isFinished_20 (by decide) ?_
      refine lv_iload hx hb dL_isFinished_22 (lv_at hl 4 rfl) ?_
      refine lv_iconst (v := 0) hx hb dL_isFinished_24 (by decide) ?_
      refine lv_iconst (v := 0) hx hb dL_isFinished_25 (by decide) ?_
      refine lv_iconst (v := 0) hx hb dL_isFinished_26 (by decide) ?_
      have hix_36 : ix p4 = k := by rw [e4]; exact ix_nI (by omega)
      have hC_35 : fnC n p4 (rfi (rr (ix p4))) = 2 := by rw [hix_36]; exact fnC_no (okN_of e4 (by omega) (by omega)) bc_5
      refine wq_call0 (vx_runSX (As := [.ref ox, .int 7, .int p4, .int 0, .int 0, .int (bI false)]) (rest := []) ⟨hx, hb, hml, hown, hts⟩ (m_L_does_finish l hnt (fa := fa) hq (p4) (0) (0) (false)) (vx_cwSW 6 hts gL_isFinished_L_does rfl rfl rfl (by decide +kernel) ⟨Nat.le_of_ble_eq_true rfl, Nat.le_of_ble_eq_true rfl⟩) (wq_pre0 hK hE hZ hN hw hA) rfl rfl hl.1 rfl (lv_room (Nat.le_of_ble_eq_true rfl)) dL_isFinished_27 ⟨(show 0 + 2 ≤ 2 by omega), (show 0 + 12 ≤ 12 by omega)⟩) hw hA (fun r_35 L_35 f_35 fx_35 H locs hp hw => ?_)
      obtain ⟨er, hq⟩ := wd_er hp (by rw [hC_35]; decide) hq
      have er : r_35 = .int (-10) := er.trans (congrArg Value.int (by rw [hC_35]; decide))
      subst er
      refine lv_iload hx hb dL_isFinished_30 (lv_at hl 4 rfl) ?_
      refine lv_aload_n hx hb dL_isFinished_32 rfl (lv_at hl 3 rfl) ?_
      refine lv_iconst (v := 0) hx hb dL_isFinished_33 (by decide) ?_
      refine wy_iald hx hb hK hw.2.1.1 hR.2.2.2.2.1 (0) (rfl : (0 : Int32) = nI 0) (by omega) (by omega) dL_isFinished_34 ?_
      refine lv_icmp_lt (tgt := 43) hx hb dL_isFinished_35 (by decide) (fun _ => ?_) (fun z => absurd (((wy_lt e4 hB.2.2.2.2.2.2.1 (by omega) (by omega)).mpr (by omega))) z)
      refine lv_bipush (v := (-10)) hx hb dL_isFinished_43 (by decide) ?_
      refine lv_icmp_ne (tgt := 52) hx hb dL_isFinished_45 (by decide) (fun z => absurd z (by decide)) (fun _ => ?_)
      refine lv_iconst (v := 1) hx hb dL_isFinished_48 (by decide) ?_
      refine lv_goto (tgt := 53) hx hb dL_isFinished_49 (by decide) ?_
      exact wq_zret (b := true) rfl hx hb hr hlocks dL_isFinished_53 hw (show 0 + 2 ≤ 2 by omega) (show 0 + 12 ≤ 12 by omega) ⟨rfl, ra, ar, n, km, mn, wk, po, rr, d, v, o, fr, g, hq, ⟨hR.1, hR.2.1, hR.2.2.1, hR.2.2.2.1, hR.2.2.2.2.1, hne⟩, hJ.up, hB⟩
