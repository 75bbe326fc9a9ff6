set_option maxHeartbeats 4000000 in
set_option maxRecDepth 100000 in
theorem m_L_isDisputed (l : Launch) (hnt : l.stackTraces = false) {G : wy_G} {L0 La : List Nat} {f0 fa : Nat → va_E} {sz : Nat} {ox lo : Nat} {ra ar : Nat → Nat} {t n : Nat} {km mn : Int32} {wk : Nat} {po : Nat → Int32} {rr : Nat → wr_V} {ad av ao af ag : Nat} {d v o fr g : Nat → Int32} (hq : wx_S G L0 f0 ox lo ra ar n km mn wk po rr) (hR : wR G La fa ad av ao af ag d v o fr g) (hJ : wJ t n km mn wk po rr) (hB : wB n km mn wk rr d v o fr g) (ht : t ≤ 80) (p5 p6 p7 : Int32) (bb : Bool) (k j q : Nat) (hk : k ≤ n) (hj : j ≤ 10) (hq1 : q ≤ 102) (e5 : p5 = nI k) (e6 : p6 = nI j) (e7 : p7 = nI q) : Met l yL_isDisputed wsL_isDisputed ({ frames := 9, cells := 8, slots := 48, locals := 182 } : Room) (va_Pc [.ref ox, .ref ad, .ref ao, .ref af, .ref ag, .int p5, .int p6, .int p7, .int (bI bb)] (wq_P G L0 f0 La fa sz)) (wq_Q G L0 La sz (fun r1 L1 f1 fa1 => r1 = .int (bI true) ∧ wZ G ox lo ad av ao af ag La (t + 1) L1 f1 fa1)) 8 48 (wy_A (L0 ++ La) sz) := by
  refine Met.ofW (cc := cL_isDisputed) (maxL := 16) (ret := (some .boolean)) (by decide) rfl ?_
  intro p e s m args below meth c s₁ B hml hv
  obtain ⟨rfl, hP⟩ := hv
  obtain ⟨hw, hK, hA⟩ := wq_start hP
  obtain ⟨hv, -, -, hE, hZ, hN⟩ := hP
  have hsz := hv.1
  subst hsz
  have hx := B.exec
  have hb := B.bytes
  have hr := B.returns
  have hts := atoms_spec (ws := wsL_isDisputed) B.pre
  have hown : s.vm.findClass RL = some m.cls := findClass_of_methodNamed B.named
  have hlocks := B.notSynchronized
  have hn20 : n ≤ 20 := hJ.2.1
  have hwk20 : wk ≤ 20 := hJ.2.2.1
  have hne := hR.2.2.2.2.2
  have hl := lv_entry ([.ref ox, .ref ad, .ref ao, .ref af, .ref ag, .int p5, .int p6, .int p7, .int (bI bb)]) (n := 16) (Nat.le_of_ble_eq_true rfl)
  rw [lg_entry_eq]
  generalize (lg_sl ([.ref ox, .ref ad, .ref ao, .ref af, .ref ag, .int p5, .int p6, .int p7, .int (bI bb)]) ++ List.replicate (16 - (lg_sl ([.ref ox, .ref ad, .ref ao, .ref af, .ref ag, .int p5, .int p6, .int p7, .int (bI bb)])).length) Slot.unset).toArray = ls at hl ⊢
  have hl : lv_has ls 16 [(0, .ref ox), (1, .ref ad), (2, .ref ao), (3, .ref af), (4, .ref ag), (5, .int p5), (6, .int p6), (7, .int p7), (8, .int (bI bb))] := hl
  refine lv_iload hx hb dL_isDisputed_0 (lv_at hl 5 rfl) ?_
  refine lv_aload hx hb dL_isDisputed_2 (lv_at hl 4 rfl) ?_
  refine lv_iconst (v := 0) hx hb dL_isDisputed_4 (by decide) ?_
  refine wy_iald hx hb hK hw.2.1.1 hR.2.2.2.2.1 (0) (rfl : (0 : Int32) = nI 0) (by omega) (by omega) dL_isDisputed_5 ?_
  refine lv_icmp_ge (tgt := 16) hx hb dL_isDisputed_6 (by decide) (fun c_1 => ?_) (fun c_1 => ?_)
  · have nc_1 : n ≤ k := (wy_ge e5 hB.2.2.2.2.2.2.1 (by omega) (by omega)).mp c_1
    refine lv_aload_n hx hb dL_isDisputed_16 rfl (lv_at hl 0 rfl) ?_
    refine lv_bipush (v := 8) hx hb dL_isDisputed_17 (by decide) ?_
    refine lv_iload hx hb dL_isDisputed_19 (lv_at hl 5 rfl) ?_
    refine lv_iload hx hb dL_isDisputed_21 (lv_at hl 6 rfl) ?_
    refine lv_iconst (v := 0) hx hb dL_isDisputed_23 (by decide) ?_
    refine lv_iconst (v := 0) hx hb dL_isDisputed_24 (by decide) ?_
    have hix_3 : ix p5 = k := by rw [e5]; exact ix_nI (by omega)
    have hix_4 : ix p6 = j := by rw [e6]; exact ix_nI (by omega)
    have hC_2 : rdC n p5 p6 (dsB (rr (ix p5)) (ix p6)) = 1 := by exact rdC_o1 (by rw [e5]; exact okN_out (by omega) (by omega))
    refine wq_call0 (vx_runSX (As := [.ref ox, .int 8, .int p5, .int p6, .int 0, .int (bI false)]) (rest := []) ⟨hx, hb, hml, hown, hts⟩ (m_L_does_dispute l hnt (fa := fa) hq (p5) (p6) (0) (false)) (vx_cwSW 6 hts gL_isDisputed_L_does rfl rfl rfl (by decide +kernel) ⟨Nat.le_of_ble_eq_true rfl, Nat.le_of_ble_eq_true rfl⟩) (wq_pre0 hK hE hZ hN hw hA) rfl rfl hl.1 rfl (lv_room (Nat.le_of_ble_eq_true rfl)) dL_isDisputed_25 ⟨(show 0 + 3 ≤ 8 by omega), (show 0 + 18 ≤ 48 by omega)⟩) hw hA (fun r_2 L_2 f_2 fx_2 H locs hp hw => ?_)
    obtain ⟨er, hq⟩ := wd_er hp (by rw [hC_2]; decide) hq
    have er : r_2 = .int (-30) := er.trans (congrArg Value.int (by rw [hC_2]; decide))
    subst er
    refine lv_bipush (v := (-30)) hx hb dL_isDisputed_28 (by decide) ?_
    refine lv_icmp_ne (tgt := 55) hx hb dL_isDisputed_30 (by decide) (fun z => absurd z (by decide)) (fun _ => ?_)
    refine lv_aload_n hx hb dL_isDisputed_33 rfl (lv_at hl 0 rfl) ?_
    refine lv_bipush (v := 9) hx hb dL_isDisputed_34 (by decide) ?_
    refine lv_iload hx hb dL_isDisputed_36 (lv_at hl 5 rfl) ?_
    refine lv_iload hx hb dL_isDisputed_38 (lv_at hl 6 rfl) ?_
    refine lv_bipush (v := 101) hx hb dL_isDisputed_40 (by decide) ?_
    refine lv_iconst (v := 0) hx hb dL_isDisputed_42 (by decide) ?_
    have hix_6 : ix p5 = k := by rw [e5]; exact ix_nI (by omega)
    have hix_7 : ix p6 = j := by rw [e6]; exact ix_nI (by omega)
    have hC_5 : slC n p5 p6 101 (!rdp (rr (ix p5)) (ix p6) || rse (rr (ix p5)) (ix p6)) = 1 := by exact slC_1a (by rw [e5]; exact okN_out (by omega) (by omega))
    refine wq_call0 (vx_runSX (As := [.ref ox, .int 9, .int p5, .int p6, .int 101, .int (bI false)]) (rest := []) ⟨hx, hb, hml, hown, hts⟩ (m_L_does_settle l hnt (fa := fa) hq (p5) (p6) (101) (false)) (vx_cwSW 6 hts gL_isDisputed_L_does rfl rfl rfl (by decide +kernel) ⟨Nat.le_of_ble_eq_true rfl, Nat.le_of_ble_eq_true rfl⟩) (wq_pre0 hK hE hZ hN hw hA) rfl rfl hl.1 rfl (lv_room (Nat.le_of_ble_eq_true rfl)) dL_isDisputed_43 ⟨(show 0 + 3 + 4 ≤ 8 by omega), (show 0 + 18 + 24 ≤ 48 by omega)⟩) hw hA (fun r_5 L_5 f_5 fx_5 H locs hp hw => ?_)
    obtain ⟨er, hq⟩ := wd_er hp (by rw [hC_5]; decide) hq
    have er : r_5 = .int (-30) := er.trans (congrArg Value.int (by rw [hC_5]; decide))
    subst er
    refine lv_bipush (v := (-30)) hx hb dL_isDisputed_46 (by decide) ?_
    refine lv_icmp_ne (tgt := 55) hx hb dL_isDisputed_48 (by decide) (fun z => absurd z (by decide)) (fun _ => ?_)
    refine lv_iconst (v := 1) hx hb dL_isDisputed_51 (by decide) ?_
    refine lv_goto (tgt := 56) hx hb dL_isDisputed_52 (by decide) ?_
    exact wq_zret (b := true) rfl hx hb hr hlocks dL_isDisputed_56 hw (show 0 + 3 + 4 ≤ 8 by omega) (show 0 + 18 + 24 ≤ 48 by omega) ⟨rfl, ra, ar, n, km, mn, wk, po, rr, d, v, o, fr, g, hq, ⟨hR.1, hR.2.1, hR.2.2.1, hR.2.2.2.1, hR.2.2.2.2.1, hne⟩, hJ.up, hB⟩
  · have nc_1 : ¬ (n ≤ k) := fun z => c_1 ((wy_ge e5 hB.2.2.2.2.2.2.1 (by omega) (by omega)).mpr z)
    refine lv_iload hx hb dL_isDisputed_9 (lv_at hl 6 rfl) ?_
    refine lv_bipush (v := 9) hx hb dL_isDisputed_11 (by decide) ?_
    refine lv_icmp_le (tgt := 57) hx hb dL_isDisputed_13 (by decide) (fun c_8 => ?_) (fun c_8 => ?_)
    · have nc_8 : j ≤ 9 := (wy_le e6 (rfl : (9 : Int32) = nI 9) (by omega) (by decide)).mp c_8
      refine lv_aload_n hx hb dL_isDisputed_57 rfl (lv_at hl 0 rfl) ?_
      refine lv_iload hx hb dL_isDisputed_58 (lv_at hl 5 rfl) ?_
      refine lv_iload hx hb dL_isDisputed_60 (lv_at hl 6 rfl) ?_
      refine vp_callSi (W.runV (As := [.int p5, .int p6]) (rest := []) ⟨hx, hb, hml, hown, hts⟩ (r_X1_charge l hq (p5) (p6) (k) (j) (by omega) (by omega) e5 e6) (cwV 2 hts gL_isDisputed_X1_charge rfl rfl rfl (by decide +kernel) ⟨Nat.le_of_ble_eq_true rfl, Nat.le_of_ble_eq_true rfl⟩) (wy_pVR hK hw.1.1 hq.1 rfl) rfl rfl hl.1 rfl (lv_room (Nat.le_of_ble_eq_true rfl)) dL_isDisputed_62 ⟨(show 0 + 0 ≤ 8 by omega), (show 0 + 0 ≤ 48 by omega)⟩) (fun r_9 er_9 => ?_)
      subst er_9
      refine lv_istore (lv' := [(9, .int (rch (rr k) j)), (0, .ref ox), (1, .ref ad), (2, .ref ao), (3, .ref af), (4, .ref ag), (5, .int p5), (6, .int p6), (7, .int p7), (8, .int (bI bb))]) hx hb dL_isDisputed_65 hl (by decide) rfl (fun ls hl => ?_)
      have JN_11 : ∀ (y_10 : Int32), y_10 = bI (rdp (rr k) j) → ∀ ls : Array Slot, lv_has ls 16 [(9, .int (rch (rr k) j)), (0, .ref ox), (1, .ref ad), (2, .ref ao), (3, .ref af), (4, .ref ag), (5, .int p5), (6, .int p6), (7, .int p7), (8, .int (bI bb))] → W p l e (headSpec wsL_isDisputed ({ frames := 9, cells := 8, slots := 48, locals := 182 } : Room)).room s m ([.ref ox, .ref ad, .ref ao, .ref af, .ref ag, .int p5, .int p6, .int p7, .int (bI bb)] : List Value).toArray below meth c s.heap [] (0) (0) (MQ below (wq_Q G L0 La s.heap.size (fun r1 L1 f1 fa1 => r1 = .int (bI true) ∧ wZ G ox lo ad av ao af ag La (t + 1) L1 f1 fa1)) ([.ref ox, .ref ad, .ref ao, .ref af, .ref ag, .int p5, .int p6, .int p7, .int (bI bb)] : List Value).toArray s 8 48 (wy_A (L0 ++ La) s.heap.size)) (F0 m 85 ls [.int y_10]) := by
        intro y_10 hy_10 ls hl
        refine lv_istore (lv' := [(10, .int y_10), (9, .int (rch (rr k) j)), (0, .ref ox), (1, .ref ad), (2, .ref ao), (3, .ref af), (4, .ref ag), (5, .int p5), (6, .int p6), (7, .int p7), (8, .int (bI bb))]) hx hb dL_isDisputed_85 hl (by decide) rfl (fun ls hl => ?_)
        have JN_13 : ∀ (y_12 : Int32), y_12 = bI (rse (rr k) j) → ∀ ls : Array Slot, lv_has ls 16 [(10, .int y_10), (9, .int (rch (rr k) j)), (0, .ref ox), (1, .ref ad), (2, .ref ao), (3, .ref af), (4, .ref ag), (5, .int p5), (6, .int p6), (7, .int p7), (8, .int (bI bb))] → W p l e (headSpec wsL_isDisputed ({ frames := 9, cells := 8, slots := 48, locals := 182 } : Room)).room s m ([.ref ox, .ref ad, .ref ao, .ref af, .ref ag, .int p5, .int p6, .int p7, .int (bI bb)] : List Value).toArray below meth c s.heap [] (0) (0) (MQ below (wq_Q G L0 La s.heap.size (fun r1 L1 f1 fa1 => r1 = .int (bI true) ∧ wZ G ox lo ad av ao af ag La (t + 1) L1 f1 fa1)) ([.ref ox, .ref ad, .ref ao, .ref af, .ref ag, .int p5, .int p6, .int p7, .int (bI bb)] : List Value).toArray s 8 48 (wy_A (L0 ++ La) s.heap.size)) (F0 m 108 ls [.int y_12]) := by
          intro y_12 hy_12 ls hl
          refine lv_istore (lv' := [(11, .int y_12), (10, .int y_10), (9, .int (rch (rr k) j)), (0, .ref ox), (1, .ref ad), (2, .ref ao), (3, .ref af), (4, .ref ag), (5, .int p5), (6, .int p6), (7, .int p7), (8, .int (bI bb))]) hx hb dL_isDisputed_108 hl (by decide) rfl (fun ls hl => ?_)
          refine lv_iload hx hb dL_isDisputed_110 (lv_at hl 1 rfl) ?_
          refine lv_if_eq (tgt := 120) hx hb dL_isDisputed_112 (by decide) (fun c_14 => ?_) (fun c_14 => ?_)
          · have bc_14 : (rdp (rr k) j) = false := bI_0 (hy_10.symm.trans c_14)
            have JN_16 : ∀ (y_15 : Int32), y_15 = bI (!dsB (rr k) j) → ∀ ls : Array Slot, lv_has ls 16 [(11, .int y_12), (10, .int y_10), (9, .int (rch (rr k) j)), (0, .ref ox), (1, .ref ad), (2, .ref ao), (3, .ref af), (4, .ref ag), (5, .int p5), (6, .int p6), (7, .int p7), (8, .int (bI bb))] → W p l e (headSpec wsL_isDisputed ({ frames := 9, cells := 8, slots := 48, locals := 182 } : Room)).room s m ([.ref ox, .ref ad, .ref ao, .ref af, .ref ag, .int p5, .int p6, .int p7, .int (bI bb)] : List Value).toArray below meth c s.heap [] (0) (0) (MQ below (wq_Q G L0 La s.heap.size (fun r1 L1 f1 fa1 => r1 = .int (bI true) ∧ wZ G ox lo ad av ao af ag La (t + 1) L1 f1 fa1)) ([.ref ox, .ref ad, .ref ao, .ref af, .ref ag, .int p5, .int p6, .int p7, .int (bI bb)] : List Value).toArray s 8 48 (wy_A (L0 ++ La) s.heap.size)) (F0 m 146 ls [.int y_15]) := by
              intro y_15 hy_15 ls hl
              refine lv_istore (lv' := [(12, .int y_15), (11, .int y_12), (10, .int y_10), (9, .int (rch (rr k) j)), (0, .ref ox), (1, .ref ad), (2, .ref ao), (3, .ref af), (4, .ref ag), (5, .int p5), (6, .int p6), (7, .int p7), (8, .int (bI bb))]) hx hb dL_isDisputed_146 hl (by decide) rfl (fun ls hl => ?_)
              refine lv_aload_n hx hb dL_isDisputed_148 rfl (lv_at hl 6 rfl) ?_
              refine lv_iload hx hb dL_isDisputed_149 (lv_at hl 9 rfl) ?_
              refine lv_dup2_11 hx hb dL_isDisputed_151 rfl rfl ?_
              refine wy_iald hx hb hK hw.2.1.1 hR.2.2.1 (k) e5 (by omega) (by omega) dL_isDisputed_152 ?_
              refine lv_iload hx hb dL_isDisputed_153 (lv_at hl 0 rfl) ?_
              refine lv_if_eq (tgt := 165) hx hb dL_isDisputed_155 (by decide) (fun c_17 => ?_) (fun c_17 => ?_)
              · have bc_17 : (!dsB (rr k) j) = false := bI_0 (hy_15.symm.trans c_17)
                have hcan : dsB (rr k) j = true := by simpa using bc_17
                refine lv_iconst (v := 0) hx hb dL_isDisputed_165 (by decide) ?_
                refine lv_ior hx hb dL_isDisputed_166 ?_
                refine lv_topi (fun x_18 ex_18 => ?_)
                refine wq_iast hx hb hK hw hR.2.2.1 (k) e5 (by omega) (by omega) dL_isDisputed_167 (fun H locs fa_19 hc_20 hn_21 hw => ?_)
                obtain ⟨o_22, ho_22⟩ : ∃ y, y = upd o (k) (x_18) := ⟨_, rfl⟩
                rw [← ho_22] at hc_20
                have hc_23 := wy_c.ne2 hR.1 hn_21 hne.2.1
                have hc_24 := wy_c.ne2 hR.2.1 hn_21 hne.2.2.2.2.1
                have hc_25 := wy_c.ne2 hR.2.2.2.1 hn_21 (Ne.symm hne.2.2.2.2.2.2.2.1)
                have hc_26 := wy_c.ne2 hR.2.2.2.2.1 hn_21 (Ne.symm hne.2.2.2.2.2.2.2.2.1)
                refine lv_aload hx hb dL_isDisputed_168 (lv_at hl 8 rfl) ?_
                refine lv_iconst (v := 4) hx hb dL_isDisputed_170 (by decide) ?_
                refine lv_dup2_11 hx hb dL_isDisputed_171 rfl rfl ?_
                refine wy_iald hx hb hK hw.2.1.1 hc_26 (4) (rfl : (4 : Int32) = nI 4) (by omega) (by omega) dL_isDisputed_172 ?_
                refine lv_iload hx hb dL_isDisputed_173 (lv_at hl 0 rfl) ?_
                refine lv_if_eq (tgt := 182) hx hb dL_isDisputed_175 (by decide) (fun c_27 => ?_) (fun c_27 => ?_)
                · have bc_27 : (!dsB (rr k) j) = false := bI_0 (hy_15.symm.trans c_27)
                  refine lv_iconst (v := 0) hx hb dL_isDisputed_182 (by decide) ?_
                  refine lv_iadd hx hb dL_isDisputed_183 ?_
                  refine lv_topi (fun x_28 ex_28 => ?_)
                  refine wq_iast hx hb hK hw hc_26 (4) (rfl : (4 : Int32) = nI 4) (by omega) (by omega) dL_isDisputed_184 (fun H locs fa_29 hc_30 hn_31 hw => ?_)
                  obtain ⟨g_32, hg_32⟩ : ∃ y, y = upd g (4) (x_28) := ⟨_, rfl⟩
                  rw [← hg_32] at hc_30
                  have hc_33 := wy_c.ne2 hc_23 hn_31 hne.2.2.2.1
                  have hc_34 := wy_c.ne2 hc_24 hn_31 hne.2.2.2.2.2.2.1
                  have hc_35 := wy_c.ne2 hc_20 hn_31 hne.2.2.2.2.2.2.2.2.1
                  have hc_36 := wy_c.ne2 hc_25 hn_31 hne.2.2.2.2.2.2.2.2.2
                  refine lv_aload_n hx hb dL_isDisputed_185 rfl (lv_at hl 4 rfl) ?_
                  refine lv_bipush (v := 9) hx hb dL_isDisputed_186 (by decide) ?_
                  refine lv_iload hx hb dL_isDisputed_188 (lv_at hl 9 rfl) ?_
                  refine lv_iload hx hb dL_isDisputed_190 (lv_at hl 10 rfl) ?_
                  refine lv_bipush (v := 50) hx hb dL_isDisputed_192 (by decide) ?_
                  refine lv_iconst (v := 0) hx hb dL_isDisputed_194 (by decide) ?_
                  have hix_38 : ix p5 = k := by rw [e5]; exact ix_nI (by omega)
                  have hix_39 : ix p6 = j := by rw [e6]; exact ix_nI (by omega)
                  have hC_37 : slC n p5 p6 50 (!rdp (rr (ix p5)) (ix p6) || rse (rr (ix p5)) (ix p6)) = 3 := by rw [hix_38, hix_39]; exact slC_3 (okN_of e5 (by omega) (by omega)) (okN_of (n := 10) e6 (by omega) (by omega)) (rfl : (50 : Int32) = nI 50) (by decide) (by simp [bc_14])
                  refine wq_call0 (vx_runSX (As := [.ref ox, .int 9, .int p5, .int p6, .int 50, .int (bI false)]) (rest := []) ⟨hx, hb, hml, hown, hts⟩ (m_L_does_settle l hnt (fa := fa_29) hq (p5) (p6) (50) (false)) (vx_cwSW 6 hts gL_isDisputed_L_does rfl rfl rfl (by decide +kernel) ⟨Nat.le_of_ble_eq_true rfl, Nat.le_of_ble_eq_true rfl⟩) (wq_pre0 hK hE hZ hN hw hA) rfl rfl hl.1 rfl (lv_room (Nat.le_of_ble_eq_true rfl)) dL_isDisputed_195 ⟨(show 0 + 4 ≤ 8 by omega), (show 0 + 24 ≤ 48 by omega)⟩) hw hA (fun r_37 L_37 f_37 fx_37 H locs hp hw => ?_)
                  obtain ⟨er, hq⟩ := wd_er hp (by rw [hC_37]; decide) hq
                  have er : r_37 = .int (-10) := er.trans (congrArg Value.int (by rw [hC_37]; decide))
                  subst er
                  refine lv_bipush (v := (-10)) hx hb dL_isDisputed_198 (by decide) ?_
                  refine lv_icmp_ne (tgt := 234) hx hb dL_isDisputed_200 (by decide) (fun z => absurd z (by decide)) (fun _ => ?_)
                  refine lv_aload_n hx hb dL_isDisputed_203 rfl (lv_at hl 4 rfl) ?_
                  refine lv_bipush (v := 8) hx hb dL_isDisputed_204 (by decide) ?_
                  refine lv_iload hx hb dL_isDisputed_206 (lv_at hl 9 rfl) ?_
                  refine lv_iload hx hb dL_isDisputed_208 (lv_at hl 10 rfl) ?_
                  refine lv_iconst (v := 0) hx hb dL_isDisputed_210 (by decide) ?_
                  refine lv_iconst (v := 0) hx hb dL_isDisputed_211 (by decide) ?_
                  have hix_41 : ix p5 = k := by rw [e5]; exact ix_nI (by omega)
                  have hix_42 : ix p6 = j := by rw [e6]; exact ix_nI (by omega)
                  have hC_40 : rdC n p5 p6 (dsB (rr (ix p5)) (ix p6)) = 2 := by rw [hix_41, hix_42]; exact rdC_no (okN_of e5 (by omega) (by omega)) (okN_of (n := 10) e6 (by omega) (by omega)) hcan
                  refine wq_call0 (vx_runSX (As := [.ref ox, .int 8, .int p5, .int p6, .int 0, .int (bI false)]) (rest := []) ⟨hx, hb, hml, hown, hts⟩ (m_L_does_dispute l hnt (fa := fa_29) hq (p5) (p6) (0) (false)) (vx_cwSW 6 hts gL_isDisputed_L_does rfl rfl rfl (by decide +kernel) ⟨Nat.le_of_ble_eq_true rfl, Nat.le_of_ble_eq_true rfl⟩) (wq_pre0 hK hE hZ hN hw hA) rfl rfl hl.1 rfl (lv_room (Nat.le_of_ble_eq_true rfl)) dL_isDisputed_212 ⟨(show 0 + 4 + 3 ≤ 8 by omega), (show 0 + 24 + 18 ≤ 48 by omega)⟩) hw hA (fun r_40 L_40 f_40 fx_40 H locs hp hw => ?_)
                  obtain ⟨er, hq⟩ := wd_er hp (by rw [hC_40]; decide) hq
                  have er : r_40 = .int (-10) := er.trans (congrArg Value.int (by rw [hC_40]; decide))
                  subst er
                  refine lv_iload hx hb dL_isDisputed_215 (lv_at hl 0 rfl) ?_
                  refine lv_if_eq (tgt := 225) hx hb dL_isDisputed_217 (by decide) (fun c_43 => ?_) (fun c_43 => ?_)
                  · have bc_43 : (!dsB (rr k) j) = false := bI_0 (hy_15.symm.trans c_43)
                    refine lv_bipush (v := (-10)) hx hb dL_isDisputed_225 (by decide) ?_
                    refine lv_icmp_ne (tgt := 234) hx hb dL_isDisputed_227 (by decide) (fun z => absurd z (by decide)) (fun _ => ?_)
                    refine lv_iconst (v := 1) hx hb dL_isDisputed_230 (by decide) ?_
                    refine lv_goto (tgt := 235) hx hb dL_isDisputed_231 (by decide) ?_
                    exact wq_zret (b := true) rfl hx hb hr hlocks dL_isDisputed_235 hw (show 0 + 4 + 3 ≤ 8 by omega) (show 0 + 24 + 18 ≤ 48 by omega) ⟨rfl, ra, ar, n, km, mn, wk, po, rr, d, v, o_22, fr, g_32, hq, ⟨hc_33, hc_34, hc_35, hc_36, hc_30, hne⟩, hJ.up, (by rw [or_z o (k := k) (ho_22.trans (by rw [ex_18])), add_z g (k := 4) (hg_32.trans (by rw [ex_28]))]; exact hB)⟩
                  · have bc_43 : (!dsB (rr k) j) = true := bI_1 (fun z => c_43 (hy_15.trans z))
                    exact absurd (bc_27.symm.trans bc_43) (by decide)
                · have bc_27 : (!dsB (rr k) j) = true := bI_1 (fun z => c_27 (hy_15.trans z))
                  exact absurd (bc_17.symm.trans bc_27) (by decide)
              · have bc_17 : (!dsB (rr k) j) = true := bI_1 (fun z => c_17 (hy_15.trans z))
                have hcan : dsB (rr k) j = false := by simpa using bc_17
                refine lv_iconst (v := 1) hx hb dL_isDisputed_158 (by decide) ?_
                refine lv_iload hx hb dL_isDisputed_159 (lv_at hl 10 rfl) ?_
                refine lv_ishl hx hb dL_isDisputed_161 ?_
                refine lv_topi (fun x_44 ex_44 => ?_)
                refine lv_goto (tgt := 166) hx hb dL_isDisputed_162 (by decide) ?_
                refine lv_ior hx hb dL_isDisputed_166 ?_
                refine lv_topi (fun x_45 ex_45 => ?_)
                refine wq_iast hx hb hK hw hR.2.2.1 (k) e5 (by omega) (by omega) dL_isDisputed_167 (fun H locs fa_46 hc_47 hn_48 hw => ?_)
                obtain ⟨o_49, ho_49⟩ : ∃ y, y = upd o (k) (x_45) := ⟨_, rfl⟩
                rw [← ho_49] at hc_47
                have hc_50 := wy_c.ne2 hR.1 hn_48 hne.2.1
                have hc_51 := wy_c.ne2 hR.2.1 hn_48 hne.2.2.2.2.1
                have hc_52 := wy_c.ne2 hR.2.2.2.1 hn_48 (Ne.symm hne.2.2.2.2.2.2.2.1)
                have hc_53 := wy_c.ne2 hR.2.2.2.2.1 hn_48 (Ne.symm hne.2.2.2.2.2.2.2.2.1)
                refine lv_aload hx hb dL_isDisputed_168 (lv_at hl 8 rfl) ?_
                refine lv_iconst (v := 4) hx hb dL_isDisputed_170 (by decide) ?_
                refine lv_dup2_11 hx hb dL_isDisputed_171 rfl rfl ?_
                refine wy_iald hx hb hK hw.2.1.1 hc_53 (4) (rfl : (4 : Int32) = nI 4) (by omega) (by omega) dL_isDisputed_172 ?_
                refine lv_iload hx hb dL_isDisputed_173 (lv_at hl 0 rfl) ?_
                refine lv_if_eq (tgt := 182) hx hb dL_isDisputed_175 (by decide) (fun c_54 => ?_) (fun c_54 => ?_)
                · have bc_54 : (!dsB (rr k) j) = false := bI_0 (hy_15.symm.trans c_54)
                  exact absurd (bc_17.symm.trans bc_54) (by decide)
                · have bc_54 : (!dsB (rr k) j) = true := bI_1 (fun z => c_54 (hy_15.trans z))
                  refine lv_iconst (v := 1) hx hb dL_isDisputed_178 (by decide) ?_
                  refine lv_goto (tgt := 183) hx hb dL_isDisputed_179 (by decide) ?_
                  refine lv_iadd hx hb dL_isDisputed_183 ?_
                  refine lv_topi (fun x_55 ex_55 => ?_)
                  refine wq_iast hx hb hK hw hc_53 (4) (rfl : (4 : Int32) = nI 4) (by omega) (by omega) dL_isDisputed_184 (fun H locs fa_56 hc_57 hn_58 hw => ?_)
                  obtain ⟨g_59, hg_59⟩ : ∃ y, y = upd g (4) (x_55) := ⟨_, rfl⟩
                  rw [← hg_59] at hc_57
                  have hc_60 := wy_c.ne2 hc_50 hn_58 hne.2.2.2.1
                  have hc_61 := wy_c.ne2 hc_51 hn_58 hne.2.2.2.2.2.2.1
                  have hc_62 := wy_c.ne2 hc_47 hn_58 hne.2.2.2.2.2.2.2.2.1
                  have hc_63 := wy_c.ne2 hc_52 hn_58 hne.2.2.2.2.2.2.2.2.2
                  refine lv_aload_n hx hb dL_isDisputed_185 rfl (lv_at hl 4 rfl) ?_
                  refine lv_bipush (v := 9) hx hb dL_isDisputed_186 (by decide) ?_
                  refine lv_iload hx hb dL_isDisputed_188 (lv_at hl 9 rfl) ?_
                  refine lv_iload hx hb dL_isDisputed_190 (lv_at hl 10 rfl) ?_
                  refine lv_bipush (v := 50) hx hb dL_isDisputed_192 (by decide) ?_
                  refine lv_iconst (v := 0) hx hb dL_isDisputed_194 (by decide) ?_
                  have hix_65 : ix p5 = k := by rw [e5]; exact ix_nI (by omega)
                  have hix_66 : ix p6 = j := by rw [e6]; exact ix_nI (by omega)
                  have hC_64 : slC n p5 p6 50 (!rdp (rr (ix p5)) (ix p6) || rse (rr (ix p5)) (ix p6)) = 3 := by rw [hix_65, hix_66]; exact slC_3 (okN_of e5 (by omega) (by omega)) (okN_of (n := 10) e6 (by omega) (by omega)) (rfl : (50 : Int32) = nI 50) (by decide) (by simp [bc_14])
                  refine wq_call0 (vx_runSX (As := [.ref ox, .int 9, .int p5, .int p6, .int 50, .int (bI false)]) (rest := []) ⟨hx, hb, hml, hown, hts⟩ (m_L_does_settle l hnt (fa := fa_56) hq (p5) (p6) (50) (false)) (vx_cwSW 6 hts gL_isDisputed_L_does rfl rfl rfl (by decide +kernel) ⟨Nat.le_of_ble_eq_true rfl, Nat.le_of_ble_eq_true rfl⟩) (wq_pre0 hK hE hZ hN hw hA) rfl rfl hl.1 rfl (lv_room (Nat.le_of_ble_eq_true rfl)) dL_isDisputed_195 ⟨(show 0 + 4 ≤ 8 by omega), (show 0 + 24 ≤ 48 by omega)⟩) hw hA (fun r_64 L_64 f_64 fx_64 H locs hp hw => ?_)
                  obtain ⟨er, hq⟩ := wd_er hp (by rw [hC_64]; decide) hq
                  have er : r_64 = .int (-10) := er.trans (congrArg Value.int (by rw [hC_64]; decide))
                  subst er
                  refine lv_bipush (v := (-10)) hx hb dL_isDisputed_198 (by decide) ?_
                  refine lv_icmp_ne (tgt := 234) hx hb dL_isDisputed_200 (by decide) (fun z => absurd z (by decide)) (fun _ => ?_)
                  refine lv_aload_n hx hb dL_isDisputed_203 rfl (lv_at hl 4 rfl) ?_
                  refine lv_bipush (v := 8) hx hb dL_isDisputed_204 (by decide) ?_
                  refine lv_iload hx hb dL_isDisputed_206 (lv_at hl 9 rfl) ?_
                  refine lv_iload hx hb dL_isDisputed_208 (lv_at hl 10 rfl) ?_
                  refine lv_iconst (v := 0) hx hb dL_isDisputed_210 (by decide) ?_
                  refine lv_iconst (v := 0) hx hb dL_isDisputed_211 (by decide) ?_
                  have hix_68 : ix p5 = k := by rw [e5]; exact ix_nI (by omega)
                  have hix_69 : ix p6 = j := by rw [e6]; exact ix_nI (by omega)
                  have hC_67 : rdC n p5 p6 (dsB (rr (ix p5)) (ix p6)) = 0 := by rw [hix_68, hix_69]; exact rdC_ok (okN_of e5 (by omega) (by omega)) (okN_of (n := 10) e6 (by omega) (by omega)) hcan
                  refine wq_call0 (vx_runSX (As := [.ref ox, .int 8, .int p5, .int p6, .int 0, .int (bI false)]) (rest := []) ⟨hx, hb, hml, hown, hts⟩ (m_L_does_dispute l hnt (fa := fa_56) hq (p5) (p6) (0) (false)) (vx_cwSW 6 hts gL_isDisputed_L_does rfl rfl rfl (by decide +kernel) ⟨Nat.le_of_ble_eq_true rfl, Nat.le_of_ble_eq_true rfl⟩) (wq_pre0 hK hE hZ hN hw hA) rfl rfl hl.1 rfl (lv_room (Nat.le_of_ble_eq_true rfl)) dL_isDisputed_212 ⟨(show 0 + 4 + 3 ≤ 8 by omega), (show 0 + 24 + 18 ≤ 48 by omega)⟩) hw hA (fun r_67 L_67 f_67 fx_67 H locs hp hw => ?_)
                  obtain ⟨er, ra, ar, hq⟩ := wd_ok hp hC_67
                  simp only [hix_68, hix_69] at er hq
                  subst er
                  obtain ⟨rr_70, hrr_70⟩ : ∃ y : Nat → wr_V, y = va_up rr (k) (vDis (rr (k)) (j)) := ⟨_, rfl⟩
                  rw [← hrr_70] at hq
                  refine lv_iload hx hb dL_isDisputed_215 (lv_at hl 0 rfl) ?_
                  refine lv_if_eq (tgt := 225) hx hb dL_isDisputed_217 (by decide) (fun c_71 => ?_) (fun c_71 => ?_)
                  · have bc_71 : (!dsB (rr k) j) = false := bI_0 (hy_15.symm.trans c_71)
                    exact absurd (bc_54.symm.trans bc_71) (by decide)
                  · have bc_71 : (!dsB (rr k) j) = true := bI_1 (fun z => c_71 (hy_15.trans z))
                    refine lv_iload hx hb dL_isDisputed_220 (lv_at hl 3 rfl) ?_
                    refine lv_goto (tgt := 227) hx hb dL_isDisputed_222 (by decide) ?_
                    refine lv_icmp_ne (tgt := 234) hx hb dL_isDisputed_227 (by decide) (fun z => absurd ((rfl : rch (rr (k)) (j) = rch (rr k) j)) z) (fun _ => ?_)
                    refine lv_iconst (v := 1) hx hb dL_isDisputed_230 (by decide) ?_
                    refine lv_goto (tgt := 235) hx hb dL_isDisputed_231 (by decide) ?_
                    exact wq_zret (b := true) rfl hx hb hr hlocks dL_isDisputed_235 hw (show 0 + 4 + 3 ≤ 8 by omega) (show 0 + 24 + 18 ≤ 48 by omega) ⟨rfl, ra, ar, n, km, mn, wk, po, rr_70, d, v, o_49, fr, g_59, hq, ⟨hc_60, hc_61, hc_62, hc_63, hc_57, hne⟩, (by rw [hrr_70]; exact J_dis hJ ht (by omega) (by omega) hcan), (by rw [hrr_70]; exact B_dis hB hJ (by omega) hn20 (by omega) hcan e6 (ho_49.trans (by rw [ex_45, ex_44])) (hg_59.trans (by rw [ex_55])))⟩
            refine lv_aload_n hx hb dL_isDisputed_120 rfl (lv_at hl 4 rfl) ?_
            refine lv_bipush (v := 20) hx hb dL_isDisputed_121 (by decide) ?_
            refine lv_iload hx hb dL_isDisputed_123 (lv_at hl 8 rfl) ?_
            refine lv_iadd hx hb dL_isDisputed_125 ?_
            refine lv_topi (fun x_72 ex_72 => ?_)
            have nx_72 : x_72 = nI (20 + k) := ex_72.trans ((congr (congrArg (fun u v : Int32 => u + v) (rfl : (20 : Int32) = nI 20)) e5).trans (nI_add _ _))
            refine wy_iald hx hb hK hw.2.1.1 hR.1 (20 + k) nx_72 (by omega) (by omega) dL_isDisputed_126 ?_
            refine lv_iconst (v := 1) hx hb dL_isDisputed_127 (by decide) ?_
            refine lv_icmp_ne (tgt := 145) hx hb dL_isDisputed_128 (by decide) (fun c_73 => ?_) (fun c_73 => ?_)
            · have bc_73 : (rfi (rr k)) = false := bI_n1 (fun z => c_73 ((hB.2.1 (k) (by omega)).trans z))
              refine lv_iconst (v := 0) hx hb dL_isDisputed_145 (by decide) ?_
              exact JN_16 _ (by simp [dsB, bc_73, bI]) ls (lv_sub hl [0, 1, 2, 3, 4, 5, 6, 7, 8, 9, 10, 11] rfl)
            · have bc_73 : (rfi (rr k)) = true := bI_e1 ((hB.2.1 (k) (by omega)).symm.trans c_73)
              refine lv_iload hx hb dL_isDisputed_131 (lv_at hl 2 rfl) ?_
              refine lv_if_le (tgt := 145) hx hb dL_isDisputed_133 (by decide) (fun c_74 => ?_) (fun c_74 => ?_)
              · refine lv_iconst (v := 0) hx hb dL_isDisputed_145 (by decide) ?_
                exact JN_16 _ (by have hz := P_chz hJ ht (k := k) (r := j) (by omega) (by omega) c_74; simp [dsB, hz, bI]) ls (lv_sub hl [0, 1, 2, 3, 4, 5, 6, 7, 8, 9, 10, 11] rfl)
              · refine lv_iload hx hb dL_isDisputed_136 (lv_at hl 0 rfl) ?_
                refine lv_if_ne (tgt := 145) hx hb dL_isDisputed_138 (by decide) (fun c_75 => ?_) (fun c_75 => ?_)
                · have bc_75 : (rse (rr k) j) = true := bI_1 (fun z => c_75 (hy_12.trans z))
                  refine lv_iconst (v := 0) hx hb dL_isDisputed_145 (by decide) ?_
                  exact JN_16 _ (absurd ((hJ.wix (k := k) (by omega)).2.2.2.2.1 j (by omega) bc_75) (by rw [bc_14]; decide)) ls (lv_sub hl [0, 1, 2, 3, 4, 5, 6, 7, 8, 9, 10, 11] rfl)
                · have bc_75 : (rse (rr k) j) = false := bI_0 (hy_12.symm.trans c_75)
                  refine lv_iconst (v := 1) hx hb dL_isDisputed_141 (by decide) ?_
                  refine lv_goto (tgt := 146) hx hb dL_isDisputed_142 (by decide) ?_
                  exact JN_16 _ (P_ds1 bc_73 c_74 bc_14) ls (lv_sub hl [0, 1, 2, 3, 4, 5, 6, 7, 8, 9, 10, 11] rfl)
          · have bc_14 : (rdp (rr k) j) = true := bI_1 (fun z => c_14 (hy_10.trans z))
            refine lv_iload hx hb dL_isDisputed_115 (lv_at hl 0 rfl) ?_
            refine lv_if_eq (tgt := 236) hx hb dL_isDisputed_117 (by decide) (fun c_76 => ?_) (fun c_76 => ?_)
            · have bc_76 : (rse (rr k) j) = false := bI_0 (hy_12.symm.trans c_76)
              have hfi := ((hJ.2.2.2.1 k (by omega)).2.2.1 j (by omega) bc_14).1
              refine lv_aload_n hx hb dL_isDisputed_236 rfl (lv_at hl 3 rfl) ?_
              refine vp_callSi (W.runV (As := []) (rest := []) ⟨hx, hb, hml, hown, hts⟩ (m_X1_house l hq) (cwV 0 hts gL_isDisputed_X1_house rfl rfl rfl (by decide +kernel) ⟨Nat.le_of_ble_eq_true rfl, Nat.le_of_ble_eq_true rfl⟩) (wy_pVR hK hw.1.1 hq.1 rfl) rfl rfl hl.1 rfl (lv_room (Nat.le_of_ble_eq_true rfl)) dL_isDisputed_237 ⟨(show 0 + 0 ≤ 8 by omega), (show 0 + 0 ≤ 48 by omega)⟩) (fun r_77 er_77 => ?_)
              subst er_77
              refine lv_istore (lv' := [(12, .int (houS rr n wk)), (11, .int y_12), (10, .int y_10), (9, .int (rch (rr k) j)), (0, .ref ox), (1, .ref ad), (2, .ref ao), (3, .ref af), (4, .ref ag), (5, .int p5), (6, .int p6), (7, .int p7), (8, .int (bI bb))]) hx hb dL_isDisputed_240 hl (by decide) rfl (fun ls hl => ?_)
              refine lv_aload_n hx hb dL_isDisputed_242 rfl (lv_at hl 4 rfl) ?_
              refine lv_iload hx hb dL_isDisputed_243 (lv_at hl 10 rfl) ?_
              refine vp_callSi (W.runV (As := [.int p6]) (rest := []) ⟨hx, hb, hml, hown, hts⟩ (r_X1_spent l hq (p6) (j) (by omega) e6) (cwV 1 hts gL_isDisputed_X1_spent rfl rfl rfl (by decide +kernel) ⟨Nat.le_of_ble_eq_true rfl, Nat.le_of_ble_eq_true rfl⟩) (wy_pVR hK hw.1.1 hq.1 rfl) rfl rfl hl.1 rfl (lv_room (Nat.le_of_ble_eq_true rfl)) dL_isDisputed_245 ⟨(show 0 + 0 ≤ 8 by omega), (show 0 + 0 ≤ 48 by omega)⟩) (fun r_78 er_78 => ?_)
              subst er_78
              refine lv_istore (lv' := [(13, .int (spdS rr n j)), (12, .int (houS rr n wk)), (11, .int y_12), (10, .int y_10), (9, .int (rch (rr k) j)), (0, .ref ox), (1, .ref ad), (2, .ref ao), (3, .ref af), (4, .ref ag), (5, .int p5), (6, .int p6), (7, .int p7), (8, .int (bI bb))]) hx hb dL_isDisputed_248 hl (by decide) rfl (fun ls hl => ?_)
              refine lv_iload hx hb dL_isDisputed_250 (lv_at hl 12 rfl) ?_
              refine lv_bipush (v := 100) hx hb dL_isDisputed_252 (by decide) ?_
              refine lv_icmp_le (tgt := 299) hx hb dL_isDisputed_254 (by decide) (fun c_79 => ?_) (fun c_79 => ?_)
              · have nc_79 : q ≤ 100 := (wy_le e7 (rfl : (100 : Int32) = nI 100) (by omega) (by decide)).mp c_79
                refine lv_aload_n hx hb dL_isDisputed_299 rfl (lv_at hl 5 rfl) ?_
                refine lv_bipush (v := 9) hx hb dL_isDisputed_300 (by decide) ?_
                refine lv_iload hx hb dL_isDisputed_302 (lv_at hl 10 rfl) ?_
                refine lv_iload hx hb dL_isDisputed_304 (lv_at hl 11 rfl) ?_
                refine lv_iload hx hb dL_isDisputed_306 (lv_at hl 12 rfl) ?_
                refine lv_iload hx hb dL_isDisputed_308 (lv_at hl 13 rfl) ?_
                have hix_81 : ix p5 = k := by rw [e5]; exact ix_nI (by omega)
                have hix_82 : ix p6 = j := by rw [e6]; exact ix_nI (by omega)
                have hC_80 : slC n p5 p6 p7 (!rdp (rr (ix p5)) (ix p6) || rse (rr (ix p5)) (ix p6)) = 0 := by rw [hix_81, hix_82]; exact slC_0 (okN_of e5 (by omega) (by omega)) (okN_of (n := 10) e6 (by omega) (by omega)) e7 (by omega) (by simp [bc_14, bc_76])
                refine wq_call0 (vx_runSX (As := [.ref ox, .int 9, .int p5, .int p6, .int p7, .int (bI bb)]) (rest := []) ⟨hx, hb, hml, hown, hts⟩ (m_L_does_settle l hnt (fa := fa) hq (p5) (p6) (p7) (bb)) (vx_cwSW 6 hts gL_isDisputed_L_does rfl rfl rfl (by decide +kernel) ⟨Nat.le_of_ble_eq_true rfl, Nat.le_of_ble_eq_true rfl⟩) (wq_pre0 hK hE hZ hN hw hA) rfl rfl hl.1 rfl (lv_room (Nat.le_of_ble_eq_true rfl)) dL_isDisputed_310 ⟨(show 0 + 4 ≤ 8 by omega), (show 0 + 24 ≤ 48 by omega)⟩) hw hA (fun r_80 L_80 f_80 fx_80 H locs hp hw => ?_)
                obtain ⟨er, ra, ar, hq⟩ := wd_ok hp hC_80
                simp only [hix_81, hix_82] at er hq
                subst er
                obtain ⟨rr_83, hrr_83⟩ : ∃ y : Nat → wr_V, y = va_up rr (k) (vRef (rr (k)) (j) p7 bb) := ⟨_, rfl⟩
                rw [← hrr_83] at hq
                refine lv_istore (lv' := [(14, .int (rfv (rr (k)) (j) p7)), (13, .int (spdS rr n j)), (12, .int (houS rr n wk)), (11, .int y_12), (10, .int y_10), (9, .int (rch (rr k) j)), (0, .ref ox), (1, .ref ad), (2, .ref ao), (3, .ref af), (4, .ref ag), (5, .int p5), (6, .int p6), (7, .int p7), (8, .int (bI bb))]) hx hb dL_isDisputed_313 hl (by decide) rfl (fun ls hl => ?_)
                refine lv_aload_n hx hb dL_isDisputed_315 rfl (lv_at hl 8 rfl) ?_
                refine lv_iload hx hb dL_isDisputed_316 (lv_at hl 11 rfl) ?_
                refine lv_dup2_11 hx hb dL_isDisputed_318 rfl rfl ?_
                refine wy_iald hx hb hK hw.2.1.1 hR.2.2.1 (k) e5 (by omega) (by omega) dL_isDisputed_319 ?_
                refine lv_iconst (v := 1) hx hb dL_isDisputed_320 (by decide) ?_
                refine lv_iload hx hb dL_isDisputed_321 (lv_at hl 12 rfl) ?_
                refine lv_bipush (v := 10) hx hb dL_isDisputed_323 (by decide) ?_
                refine lv_iadd hx hb dL_isDisputed_325 ?_
                refine lv_topi (fun x_84 ex_84 => ?_)
                have nx_84 : x_84 = nI (j + 10) := ex_84.trans ((congr (congrArg (fun u v : Int32 => u + v) e6) (rfl : (10 : Int32) = nI 10)).trans (nI_add _ _))
                refine lv_ishl hx hb dL_isDisputed_326 ?_
                refine lv_topi (fun x_85 ex_85 => ?_)
                refine lv_ior hx hb dL_isDisputed_327 ?_
                refine lv_topi (fun x_86 ex_86 => ?_)
                refine wq_iast hx hb hK hw hR.2.2.1 (k) e5 (by omega) (by omega) dL_isDisputed_328 (fun H locs fa_87 hc_88 hn_89 hw => ?_)
                obtain ⟨o_90, ho_90⟩ : ∃ y, y = upd o (k) (x_86) := ⟨_, rfl⟩
                rw [← ho_90] at hc_88
                have hc_91 := wy_c.ne2 hR.1 hn_89 hne.2.1
                have hc_92 := wy_c.ne2 hR.2.1 hn_89 hne.2.2.2.2.1
                have hc_93 := wy_c.ne2 hR.2.2.2.1 hn_89 (Ne.symm hne.2.2.2.2.2.2.2.1)
                have hc_94 := wy_c.ne2 hR.2.2.2.2.1 hn_89 (Ne.symm hne.2.2.2.2.2.2.2.2.1)
                refine lv_aload_n hx hb dL_isDisputed_329 rfl (lv_at hl 9 rfl) ?_
                refine lv_iload hx hb dL_isDisputed_330 (lv_at hl 12 rfl) ?_
                refine lv_dup2_11 hx hb dL_isDisputed_332 rfl rfl ?_
                refine wy_iald hx hb hK hw.2.1.1 hc_93 (j) e6 (by omega) (by omega) dL_isDisputed_333 ?_
                refine lv_iload hx hb dL_isDisputed_334 (lv_at hl 0 rfl) ?_
                refine lv_iadd hx hb dL_isDisputed_336 ?_
                refine lv_topi (fun x_95 ex_95 => ?_)
                refine wq_iast hx hb hK hw hc_93 (j) e6 (by omega) (by omega) dL_isDisputed_337 (fun H locs fa_96 hc_97 hn_98 hw => ?_)
                obtain ⟨fr_99, hfr_99⟩ : ∃ y, y = upd fr (j) (x_95) := ⟨_, rfl⟩
                rw [← hfr_99] at hc_97
                have hc_100 := wy_c.ne2 hc_91 hn_98 hne.2.2.1
                have hc_101 := wy_c.ne2 hc_92 hn_98 hne.2.2.2.2.2.1
                have hc_102 := wy_c.ne2 hc_88 hn_98 hne.2.2.2.2.2.2.2.1
                have hc_103 := wy_c.ne2 hc_94 hn_98 (Ne.symm hne.2.2.2.2.2.2.2.2.2)
                refine lv_aload hx hb dL_isDisputed_338 (lv_at hl 10 rfl) ?_
                refine lv_iconst (v := 4) hx hb dL_isDisputed_340 (by decide) ?_
                refine lv_dup2_11 hx hb dL_isDisputed_341 rfl rfl ?_
                refine wy_iald hx hb hK hw.2.1.1 hc_103 (4) (rfl : (4 : Int32) = nI 4) (by omega) (by omega) dL_isDisputed_342 ?_
                refine lv_iconst (v := 1) hx hb dL_isDisputed_343 (by decide) ?_
                refine lv_isub hx hb dL_isDisputed_344 ?_
                refine lv_topi (fun x_104 ex_104 => ?_)
                refine wq_iast hx hb hK hw hc_103 (4) (rfl : (4 : Int32) = nI 4) (by omega) (by omega) dL_isDisputed_345 (fun H locs fa_105 hc_106 hn_107 hw => ?_)
                obtain ⟨g_108, hg_108⟩ : ∃ y, y = upd g (4) (x_104) := ⟨_, rfl⟩
                rw [← hg_108] at hc_106
                have hc_109 := wy_c.ne2 hc_100 hn_107 hne.2.2.2.1
                have hc_110 := wy_c.ne2 hc_101 hn_107 hne.2.2.2.2.2.2.1
                have hc_111 := wy_c.ne2 hc_102 hn_107 hne.2.2.2.2.2.2.2.2.1
                have hc_112 := wy_c.ne2 hc_97 hn_107 hne.2.2.2.2.2.2.2.2.2
                refine lv_iload hx hb dL_isDisputed_346 (lv_at hl 0 rfl) ?_
                refine lv_if_lt (tgt := 426) hx hb dL_isDisputed_348 (by decide) (fun z => absurd z ((R_nn hJ ht (k := k) (r := j) (by omega) (by omega) e7 (by omega)).1)) (fun _ => ?_)
                refine lv_iload hx hb dL_isDisputed_351 (lv_at hl 0 rfl) ?_
                refine lv_iload hx hb dL_isDisputed_353 (lv_at hl 5 rfl) ?_
                refine lv_icmp_gt (tgt := 426) hx hb dL_isDisputed_355 (by decide) (fun z => absurd z ((R_nn hJ ht (k := k) (r := j) (by omega) (by omega) e7 (by omega)).2)) (fun _ => ?_)
                have JN_114 : ∀ ls : Array Slot, lv_has ls 16 [(14, .int (rfv (rr (k)) (j) p7)), (13, .int (spdS rr n j)), (12, .int (houS rr n wk)), (11, .int y_12), (10, .int y_10), (9, .int (rch (rr k) j)), (0, .ref ox), (1, .ref ad), (2, .ref ao), (3, .ref af), (4, .ref ag), (5, .int p5), (6, .int p6), (7, .int p7), (8, .int (bI bb))] → W p l e (headSpec wsL_isDisputed ({ frames := 9, cells := 8, slots := 48, locals := 182 } : Room)).room s m ([.ref ox, .ref ad, .ref ao, .ref af, .ref ag, .int p5, .int p6, .int p7, .int (bI bb)] : List Value).toArray below meth c H locs (0 + 4) (0 + 24) (MQ below (wq_Q G L0 La s.heap.size (fun r1 L1 f1 fa1 => r1 = .int (bI true) ∧ wZ G ox lo ad av ao af ag La (t + 1) L1 f1 fa1)) ([.ref ox, .ref ad, .ref ao, .ref af, .ref ag, .int p5, .int p6, .int p7, .int (bI bb)] : List Value).toArray s 8 48 (wy_A (L0 ++ La) s.heap.size)) (F0 m 372 ls []) := by
                  intro ls hl
                  have JN_116 : ∀ ls : Array Slot, lv_has ls 16 [(14, .int (rfv (rr (k)) (j) p7)), (13, .int (spdS rr n j)), (12, .int (houS rr n wk)), (11, .int y_12), (10, .int y_10), (9, .int (rch (rr k) j)), (0, .ref ox), (1, .ref ad), (2, .ref ao), (3, .ref af), (4, .ref ag), (5, .int p5), (6, .int p6), (7, .int p7), (8, .int (bI bb))] → W p l e (headSpec wsL_isDisputed ({ frames := 9, cells := 8, slots := 48, locals := 182 } : Room)).room s m ([.ref ox, .ref ad, .ref ao, .ref af, .ref ag, .int p5, .int p6, .int p7, .int (bI bb)] : List Value).toArray below meth c H locs (0 + 4) (0 + 24) (MQ below (wq_Q G L0 La s.heap.size (fun r1 L1 f1 fa1 => r1 = .int (bI true) ∧ wZ G ox lo ad av ao af ag La (t + 1) L1 f1 fa1)) ([.ref ox, .ref ad, .ref ao, .ref af, .ref ag, .int p5, .int p6, .int p7, .int (bI bb)] : List Value).toArray s 8 48 (wy_A (L0 ++ La) s.heap.size)) (F0 m 382 ls []) := by
                    intro ls hl
                    refine lv_iload hx hb dL_isDisputed_382 (lv_at hl 0 rfl) ?_
                    refine lv_i2l (v := (rfv (rr (k)) (j) p7).toInt64) hx hb dL_isDisputed_384 rfl ?_
                    refine lv_ldc2 (v := 100) hx hb hown (hts (.constantLong RL 125 (100)) (by decide +kernel)) dL_isDisputed_385 ?_
                    refine lv_lmul hx hb dL_isDisputed_388 ?_
                    refine lv_iload hx hb dL_isDisputed_389 (lv_at hl 5 rfl) ?_
                    refine lv_i2l (v := (rch (rr k) j).toInt64) hx hb dL_isDisputed_391 rfl ?_
                    refine lv_iload hx hb dL_isDisputed_392 (lv_at hl 13 rfl) ?_
                    refine lv_i2l (v := p7.toInt64) hx hb dL_isDisputed_394 rfl ?_
                    refine lv_lmul hx hb dL_isDisputed_395 ?_
                    refine W.lcmp hx hb dL_isDisputed_396 ?_
                    refine lv_if_gt (tgt := 426) hx hb dL_isDisputed_397 (by decide) (fun z => absurd z (R_l1 hJ ht (k := k) (r := j) (by omega) (by omega) e7 (by omega))) (fun _ => ?_)
                    refine lv_iload hx hb dL_isDisputed_400 (lv_at hl 0 rfl) ?_
                    refine lv_i2l (v := (rfv (rr (k)) (j) p7).toInt64) hx hb dL_isDisputed_402 rfl ?_
                    refine lv_ldc2 (v := 100) hx hb hown (hts (.constantLong RL 125 (100)) (by decide +kernel)) dL_isDisputed_403 ?_
                    refine lv_lmul hx hb dL_isDisputed_406 ?_
                    refine lv_iload hx hb dL_isDisputed_407 (lv_at hl 5 rfl) ?_
                    refine lv_i2l (v := (rch (rr k) j).toInt64) hx hb dL_isDisputed_409 rfl ?_
                    refine lv_iload hx hb dL_isDisputed_410 (lv_at hl 13 rfl) ?_
                    refine lv_i2l (v := p7.toInt64) hx hb dL_isDisputed_412 rfl ?_
                    refine lv_lmul hx hb dL_isDisputed_413 ?_
                    refine lv_ldc2 (v := 100) hx hb hown (hts (.constantLong RL 125 (100)) (by decide +kernel)) dL_isDisputed_414 ?_
                    refine lv_lsub hx hb dL_isDisputed_417 ?_
                    refine W.lcmp hx hb dL_isDisputed_418 ?_
                    refine lv_if_le (tgt := 426) hx hb dL_isDisputed_419 (by decide) (fun z => absurd z (R_l2 hJ ht (k := k) (r := j) (by omega) (by omega) e7 (by omega))) (fun _ => ?_)
                    refine lv_iconst (v := 1) hx hb dL_isDisputed_422 (by decide) ?_
                    refine lv_goto (tgt := 427) hx hb dL_isDisputed_423 (by decide) ?_
                    refine lv_istore (lv' := [(15, .int 1), (14, .int (rfv (rr (k)) (j) p7)), (13, .int (spdS rr n j)), (12, .int (houS rr n wk)), (11, .int y_12), (10, .int y_10), (9, .int (rch (rr k) j)), (0, .ref ox), (1, .ref ad), (2, .ref ao), (3, .ref af), (4, .ref ag), (5, .int p5), (6, .int p6), (7, .int p7), (8, .int (bI bb))]) hx hb dL_isDisputed_427 hl (by decide) rfl (fun ls hl => ?_)
                    refine lv_iload hx hb dL_isDisputed_429 (lv_at hl 0 rfl) ?_
                    refine lv_if_eq (tgt := 499) hx hb dL_isDisputed_431 (by decide) (fun z => absurd z (by decide)) (fun _ => ?_)
                    refine lv_aload_n hx hb dL_isDisputed_434 rfl (lv_at hl 7 rfl) ?_
                    refine lv_iload hx hb dL_isDisputed_435 (lv_at hl 13 rfl) ?_
                    refine vp_callSi (W.runV (As := [.int p6]) (rest := []) ⟨hx, hb, hml, hown, hts⟩ (r_X1_spent l hq (p6) (j) (by omega) e6) (cwV 1 hts gL_isDisputed_X1_spent rfl rfl rfl (by decide +kernel) ⟨Nat.le_of_ble_eq_true rfl, Nat.le_of_ble_eq_true rfl⟩) (wy_pVR hK hw.1.1 hq.1 rfl) rfl rfl hl.1 rfl (lv_room (Nat.le_of_ble_eq_true rfl)) dL_isDisputed_437 ⟨(show 0 + 4 + 0 ≤ 8 by omega), (show 0 + 24 + 0 ≤ 48 by omega)⟩) (fun r_123 er_123 => ?_)
                    subst er_123
                    refine lv_iload hx hb dL_isDisputed_440 (lv_at hl 2 rfl) ?_
                    refine lv_iload hx hb dL_isDisputed_442 (lv_at hl 1 rfl) ?_
                    refine lv_isub hx hb dL_isDisputed_444 ?_
                    refine lv_topi (fun x_124 ex_124 => ?_)
                    refine lv_icmp_ne (tgt := 499) hx hb dL_isDisputed_445 (by decide) (fun z => absurd ((by rw [hrr_83, ex_124]; exact P_spd1 hJ (by omega) (by omega) hfi bc_76 : spdS rr_83 n j = x_124)) z) (fun _ => ?_)
                    refine lv_iload hx hb dL_isDisputed_448 (lv_at hl 15 rfl) ?_
                    refine lv_if_ne (tgt := 465) hx hb dL_isDisputed_450 (by decide) (fun c_125 => ?_) (fun c_125 => ?_)
                    · have bc_125 : (bb) = true := bI_1 (fun z => c_125 (rfl.trans z))
                      refine lv_aload_n hx hb dL_isDisputed_465 rfl (lv_at hl 7 rfl) ?_
                      refine lv_iload hx hb dL_isDisputed_466 (lv_at hl 12 rfl) ?_
                      refine lv_iload hx hb dL_isDisputed_468 (lv_at hl 13 rfl) ?_
                      refine vp_callSi (W.runV (As := [.int p5, .int p6]) (rest := []) ⟨hx, hb, hml, hown, hts⟩ (r_X1_charge l hq (p5) (p6) (k) (j) (by omega) (by omega) e5 e6) (cwV 2 hts gL_isDisputed_X1_charge rfl rfl rfl (by decide +kernel) ⟨Nat.le_of_ble_eq_true rfl, Nat.le_of_ble_eq_true rfl⟩) (wy_pVR hK hw.1.1 hq.1 rfl) rfl rfl hl.1 rfl (lv_room (Nat.le_of_ble_eq_true rfl)) dL_isDisputed_470 ⟨(show 0 + 4 + 0 ≤ 8 by omega), (show 0 + 24 + 0 ≤ 48 by omega)⟩) (fun r_126 er_126 => ?_)
                      subst er_126
                      refine lv_iload hx hb dL_isDisputed_473 (lv_at hl 6 rfl) ?_
                      refine lv_icmp_ne (tgt := 499) hx hb dL_isDisputed_475 (by decide) (fun z => absurd ((by rw [hrr_83, va_up_self]; rfl : rch (rr_83 k) j = rch (rr k) j)) z) (fun _ => ?_)
                      refine lv_aload_n hx hb dL_isDisputed_478 rfl (lv_at hl 7 rfl) ?_
                      refine lv_bipush (v := 9) hx hb dL_isDisputed_479 (by decide) ?_
                      refine lv_iload hx hb dL_isDisputed_481 (lv_at hl 12 rfl) ?_
                      refine lv_iload hx hb dL_isDisputed_483 (lv_at hl 13 rfl) ?_
                      refine lv_iconst (v := 0) hx hb dL_isDisputed_485 (by decide) ?_
                      refine lv_iconst (v := 0) hx hb dL_isDisputed_486 (by decide) ?_
                      have hix_128 : ix p5 = k := by rw [e5]; exact ix_nI (by omega)
                      have hix_129 : ix p6 = j := by rw [e6]; exact ix_nI (by omega)
                      have hC_127 : slC n p5 p6 0 (!rdp (rr_83 (ix p5)) (ix p6) || rse (rr_83 (ix p5)) (ix p6)) = 3 := by rw [hix_128, hix_129]; exact slC_3 (okN_of e5 (by omega) (by omega)) (okN_of (n := 10) e6 (by omega) (by omega)) (rfl : (0 : Int32) = nI 0) (by decide) (by rw [hrr_83, va_up_self]; exact R_set)
                      refine wq_call0 (vx_runSX (As := [.ref ox, .int 9, .int p5, .int p6, .int 0, .int (bI false)]) (rest := []) ⟨hx, hb, hml, hown, hts⟩ (m_L_does_settle l hnt (fa := fa_105) hq (p5) (p6) (0) (false)) (vx_cwSW 6 hts gL_isDisputed_L_does rfl rfl rfl (by decide +kernel) ⟨Nat.le_of_ble_eq_true rfl, Nat.le_of_ble_eq_true rfl⟩) (wq_pre0 hK hE hZ hN hw hA) rfl rfl hl.1 rfl (lv_room (Nat.le_of_ble_eq_true rfl)) dL_isDisputed_487 ⟨(show 0 + 4 + 4 ≤ 8 by omega), (show 0 + 24 + 24 ≤ 48 by omega)⟩) hw hA (fun r_127 L_127 f_127 fx_127 H locs hp hw => ?_)
                      obtain ⟨er, hq⟩ := wd_er hp (by rw [hC_127]; decide) hq
                      have er : r_127 = .int (-10) := er.trans (congrArg Value.int (by rw [hC_127]; decide))
                      subst er
                      refine lv_bipush (v := (-10)) hx hb dL_isDisputed_490 (by decide) ?_
                      refine lv_icmp_ne (tgt := 499) hx hb dL_isDisputed_492 (by decide) (fun z => absurd z (by decide)) (fun _ => ?_)
                      refine lv_iconst (v := 1) hx hb dL_isDisputed_495 (by decide) ?_
                      refine lv_goto (tgt := 500) hx hb dL_isDisputed_496 (by decide) ?_
                      exact wq_zret (b := true) rfl hx hb hr hlocks dL_isDisputed_500 hw (show 0 + 4 + 4 ≤ 8 by omega) (show 0 + 24 + 24 ≤ 48 by omega) ⟨rfl, ra, ar, n, km, mn, wk, po, rr_83, d, v, o_90, fr_99, g_108, hq, ⟨hc_109, hc_110, hc_111, hc_112, hc_106, hne⟩, (by rw [hrr_83]; exact J_ref hJ ht (by omega) (by omega) bc_14 e7 (by omega)), (by rw [hrr_83]; exact B_ref hB hJ (by omega) hn20 (by omega) bc_14 bc_76 nx_84 (ho_90.trans (by rw [ex_86, ex_85])) (hfr_99.trans (by rw [ex_95])) (hg_108.trans (by rw [ex_104])))⟩
                    · have bc_125 : (bb) = false := bI_0 (rfl.symm.trans c_125)
                      refine lv_aload_n hx hb dL_isDisputed_453 rfl (lv_at hl 7 rfl) ?_
                      refine vp_callSi (W.runV (As := []) (rest := []) ⟨hx, hb, hml, hown, hts⟩ (m_X1_house l hq) (cwV 0 hts gL_isDisputed_X1_house rfl rfl rfl (by decide +kernel) ⟨Nat.le_of_ble_eq_true rfl, Nat.le_of_ble_eq_true rfl⟩) (wy_pVR hK hw.1.1 hq.1 rfl) rfl rfl hl.1 rfl (lv_room (Nat.le_of_ble_eq_true rfl)) dL_isDisputed_454 ⟨(show 0 + 4 + 0 ≤ 8 by omega), (show 0 + 24 + 0 ≤ 48 by omega)⟩) (fun r_130 er_130 => ?_)
                      subst er_130
                      refine lv_iload hx hb dL_isDisputed_457 (lv_at hl 3 rfl) ?_
                      refine lv_iload hx hb dL_isDisputed_459 (lv_at hl 1 rfl) ?_
                      refine lv_isub hx hb dL_isDisputed_461 ?_
                      refine lv_topi (fun x_131 ex_131 => ?_)
                      refine lv_icmp_ne (tgt := 499) hx hb dL_isDisputed_462 (by decide) (fun z => absurd ((by rw [hrr_83, ex_131, bc_125]; exact P_hou1 hJ (by omega) (by omega) hfi bc_76 : houS rr_83 n wk = x_131)) z) (fun _ => ?_)
                      refine lv_aload_n hx hb dL_isDisputed_465 rfl (lv_at hl 7 rfl) ?_
                      refine lv_iload hx hb dL_isDisputed_466 (lv_at hl 12 rfl) ?_
                      refine lv_iload hx hb dL_isDisputed_468 (lv_at hl 13 rfl) ?_
                      refine vp_callSi (W.runV (As := [.int p5, .int p6]) (rest := []) ⟨hx, hb, hml, hown, hts⟩ (r_X1_charge l hq (p5) (p6) (k) (j) (by omega) (by omega) e5 e6) (cwV 2 hts gL_isDisputed_X1_charge rfl rfl rfl (by decide +kernel) ⟨Nat.le_of_ble_eq_true rfl, Nat.le_of_ble_eq_true rfl⟩) (wy_pVR hK hw.1.1 hq.1 rfl) rfl rfl hl.1 rfl (lv_room (Nat.le_of_ble_eq_true rfl)) dL_isDisputed_470 ⟨(show 0 + 4 + 0 ≤ 8 by omega), (show 0 + 24 + 0 ≤ 48 by omega)⟩) (fun r_132 er_132 => ?_)
                      subst er_132
                      refine lv_iload hx hb dL_isDisputed_473 (lv_at hl 6 rfl) ?_
                      refine lv_icmp_ne (tgt := 499) hx hb dL_isDisputed_475 (by decide) (fun z => absurd ((by rw [hrr_83, va_up_self]; rfl : rch (rr_83 k) j = rch (rr k) j)) z) (fun _ => ?_)
                      refine lv_aload_n hx hb dL_isDisputed_478 rfl (lv_at hl 7 rfl) ?_
                      refine lv_bipush (v := 9) hx hb dL_isDisputed_479 (by decide) ?_
                      refine lv_iload hx hb dL_isDisputed_481 (lv_at hl 12 rfl) ?_
                      refine lv_iload hx hb dL_isDisputed_483 (lv_at hl 13 rfl) ?_
                      refine lv_iconst (v := 0) hx hb dL_isDisputed_485 (by decide) ?_
                      refine lv_iconst (v := 0) hx hb dL_isDisputed_486 (by decide) ?_
                      have hix_134 : ix p5 = k := by rw [e5]; exact ix_nI (by omega)
                      have hix_135 : ix p6 = j := by rw [e6]; exact ix_nI (by omega)
                      have hC_133 : slC n p5 p6 0 (!rdp (rr_83 (ix p5)) (ix p6) || rse (rr_83 (ix p5)) (ix p6)) = 3 := by rw [hix_134, hix_135]; exact slC_3 (okN_of e5 (by omega) (by omega)) (okN_of (n := 10) e6 (by omega) (by omega)) (rfl : (0 : Int32) = nI 0) (by decide) (by rw [hrr_83, va_up_self]; exact R_set)
                      refine wq_call0 (vx_runSX (As := [.ref ox, .int 9, .int p5, .int p6, .int 0, .int (bI false)]) (rest := []) ⟨hx, hb, hml, hown, hts⟩ (m_L_does_settle l hnt (fa := fa_105) hq (p5) (p6) (0) (false)) (vx_cwSW 6 hts gL_isDisputed_L_does rfl rfl rfl (by decide +kernel) ⟨Nat.le_of_ble_eq_true rfl, Nat.le_of_ble_eq_true rfl⟩) (wq_pre0 hK hE hZ hN hw hA) rfl rfl hl.1 rfl (lv_room (Nat.le_of_ble_eq_true rfl)) dL_isDisputed_487 ⟨(show 0 + 4 + 4 ≤ 8 by omega), (show 0 + 24 + 24 ≤ 48 by omega)⟩) hw hA (fun r_133 L_133 f_133 fx_133 H locs hp hw => ?_)
                      obtain ⟨er, hq⟩ := wd_er hp (by rw [hC_133]; decide) hq
                      have er : r_133 = .int (-10) := er.trans (congrArg Value.int (by rw [hC_133]; decide))
                      subst er
                      refine lv_bipush (v := (-10)) hx hb dL_isDisputed_490 (by decide) ?_
                      refine lv_icmp_ne (tgt := 499) hx hb dL_isDisputed_492 (by decide) (fun z => absurd z (by decide)) (fun _ => ?_)
                      refine lv_iconst (v := 1) hx hb dL_isDisputed_495 (by decide) ?_
                      refine lv_goto (tgt := 500) hx hb dL_isDisputed_496 (by decide) ?_
                      exact wq_zret (b := true) rfl hx hb hr hlocks dL_isDisputed_500 hw (show 0 + 4 + 4 ≤ 8 by omega) (show 0 + 24 + 24 ≤ 48 by omega) ⟨rfl, ra, ar, n, km, mn, wk, po, rr_83, d, v, o_90, fr_99, g_108, hq, ⟨hc_109, hc_110, hc_111, hc_112, hc_106, hne⟩, (by rw [hrr_83]; exact J_ref hJ ht (by omega) (by omega) bc_14 e7 (by omega)), (by rw [hrr_83]; exact B_ref hB hJ (by omega) hn20 (by omega) bc_14 bc_76 nx_84 (ho_90.trans (by rw [ex_86, ex_85])) (hfr_99.trans (by rw [ex_95])) (hg_108.trans (by rw [ex_104])))⟩
                  refine lv_iload hx hb dL_isDisputed_372 (lv_at hl 13 rfl) ?_
                  refine lv_if_gt (tgt := 382) hx hb dL_isDisputed_374 (by decide) (fun c_136 => ?_) (fun c_136 => ?_)
                  · exact JN_116 ls (lv_sub hl [0, 1, 2, 3, 4, 5, 6, 7, 8, 9, 10, 11, 12, 13, 14] rfl)
                  · refine lv_iload hx hb dL_isDisputed_377 (lv_at hl 0 rfl) ?_
                    refine lv_if_ne (tgt := 426) hx hb dL_isDisputed_379 (by decide) (fun z => absurd (R_no hJ ht (k := k) (r := j) (by omega) (by omega) e7 (n_ngt0 e7 (by omega) c_136)) z) (fun _ => ?_)
                    exact JN_116 ls (lv_sub hl [0, 1, 2, 3, 4, 5, 6, 7, 8, 9, 10, 11, 12, 13, 14] rfl)
                refine lv_iload hx hb dL_isDisputed_358 (lv_at hl 13 rfl) ?_
                refine lv_bipush (v := 100) hx hb dL_isDisputed_360 (by decide) ?_
                refine lv_icmp_lt (tgt := 372) hx hb dL_isDisputed_362 (by decide) (fun c_137 => ?_) (fun c_137 => ?_)
                · have nc_137 : q < 100 := (wy_lt e7 (rfl : (100 : Int32) = nI 100) (by omega) (by decide)).mp c_137
                  have JN_139 : ∀ ls : Array Slot, lv_has ls 16 [(14, .int (rfv (rr (k)) (j) p7)), (13, .int (spdS rr n j)), (12, .int (houS rr n wk)), (11, .int y_12), (10, .int y_10), (9, .int (rch (rr k) j)), (0, .ref ox), (1, .ref ad), (2, .ref ao), (3, .ref af), (4, .ref ag), (5, .int p5), (6, .int p6), (7, .int p7), (8, .int (bI bb))] → W p l e (headSpec wsL_isDisputed ({ frames := 9, cells := 8, slots := 48, locals := 182 } : Room)).room s m ([.ref ox, .ref ad, .ref ao, .ref af, .ref ag, .int p5, .int p6, .int p7, .int (bI bb)] : List Value).toArray below meth c H locs (0 + 4) (0 + 24) (MQ below (wq_Q G L0 La s.heap.size (fun r1 L1 f1 fa1 => r1 = .int (bI true) ∧ wZ G ox lo ad av ao af ag La (t + 1) L1 f1 fa1)) ([.ref ox, .ref ad, .ref ao, .ref af, .ref ag, .int p5, .int p6, .int p7, .int (bI bb)] : List Value).toArray s 8 48 (wy_A (L0 ++ La) s.heap.size)) (F0 m 382 ls []) := by
                    intro ls hl
                    refine lv_iload hx hb dL_isDisputed_382 (lv_at hl 0 rfl) ?_
                    refine lv_i2l (v := (rfv (rr (k)) (j) p7).toInt64) hx hb dL_isDisputed_384 rfl ?_
                    refine lv_ldc2 (v := 100) hx hb hown (hts (.constantLong RL 125 (100)) (by decide +kernel)) dL_isDisputed_385 ?_
                    refine lv_lmul hx hb dL_isDisputed_388 ?_
                    refine lv_iload hx hb dL_isDisputed_389 (lv_at hl 5 rfl) ?_
                    refine lv_i2l (v := (rch (rr k) j).toInt64) hx hb dL_isDisputed_391 rfl ?_
                    refine lv_iload hx hb dL_isDisputed_392 (lv_at hl 13 rfl) ?_
                    refine lv_i2l (v := p7.toInt64) hx hb dL_isDisputed_394 rfl ?_
                    refine lv_lmul hx hb dL_isDisputed_395 ?_
                    refine W.lcmp hx hb dL_isDisputed_396 ?_
                    refine lv_if_gt (tgt := 426) hx hb dL_isDisputed_397 (by decide) (fun z => absurd z (R_l1 hJ ht (k := k) (r := j) (by omega) (by omega) e7 (by omega))) (fun _ => ?_)
                    refine lv_iload hx hb dL_isDisputed_400 (lv_at hl 0 rfl) ?_
                    refine lv_i2l (v := (rfv (rr (k)) (j) p7).toInt64) hx hb dL_isDisputed_402 rfl ?_
                    refine lv_ldc2 (v := 100) hx hb hown (hts (.constantLong RL 125 (100)) (by decide +kernel)) dL_isDisputed_403 ?_
                    refine lv_lmul hx hb dL_isDisputed_406 ?_
                    refine lv_iload hx hb dL_isDisputed_407 (lv_at hl 5 rfl) ?_
                    refine lv_i2l (v := (rch (rr k) j).toInt64) hx hb dL_isDisputed_409 rfl ?_
                    refine lv_iload hx hb dL_isDisputed_410 (lv_at hl 13 rfl) ?_
                    refine lv_i2l (v := p7.toInt64) hx hb dL_isDisputed_412 rfl ?_
                    refine lv_lmul hx hb dL_isDisputed_413 ?_
                    refine lv_ldc2 (v := 100) hx hb hown (hts (.constantLong RL 125 (100)) (by decide +kernel)) dL_isDisputed_414 ?_
                    refine lv_lsub hx hb dL_isDisputed_417 ?_
                    refine W.lcmp hx hb dL_isDisputed_418 ?_
                    refine lv_if_le (tgt := 426) hx hb dL_isDisputed_419 (by decide) (fun z => absurd z (R_l2 hJ ht (k := k) (r := j) (by omega) (by omega) e7 (by omega))) (fun _ => ?_)
                    refine lv_iconst (v := 1) hx hb dL_isDisputed_422 (by decide) ?_
                    refine lv_goto (tgt := 427) hx hb dL_isDisputed_423 (by decide) ?_
                    refine lv_istore (lv' := [(15, .int 1), (14, .int (rfv (rr (k)) (j) p7)), (13, .int (spdS rr n j)), (12, .int (houS rr n wk)), (11, .int y_12), (10, .int y_10), (9, .int (rch (rr k) j)), (0, .ref ox), (1, .ref ad), (2, .ref ao), (3, .ref af), (4, .ref ag), (5, .int p5), (6, .int p6), (7, .int p7), (8, .int (bI bb))]) hx hb dL_isDisputed_427 hl (by decide) rfl (fun ls hl => ?_)
                    refine lv_iload hx hb dL_isDisputed_429 (lv_at hl 0 rfl) ?_
                    refine lv_if_eq (tgt := 499) hx hb dL_isDisputed_431 (by decide) (fun z => absurd z (by decide)) (fun _ => ?_)
                    refine lv_aload_n hx hb dL_isDisputed_434 rfl (lv_at hl 7 rfl) ?_
                    refine lv_iload hx hb dL_isDisputed_435 (lv_at hl 13 rfl) ?_
                    refine vp_callSi (W.runV (As := [.int p6]) (rest := []) ⟨hx, hb, hml, hown, hts⟩ (r_X1_spent l hq (p6) (j) (by omega) e6) (cwV 1 hts gL_isDisputed_X1_spent rfl rfl rfl (by decide +kernel) ⟨Nat.le_of_ble_eq_true rfl, Nat.le_of_ble_eq_true rfl⟩) (wy_pVR hK hw.1.1 hq.1 rfl) rfl rfl hl.1 rfl (lv_room (Nat.le_of_ble_eq_true rfl)) dL_isDisputed_437 ⟨(show 0 + 4 + 0 ≤ 8 by omega), (show 0 + 24 + 0 ≤ 48 by omega)⟩) (fun r_146 er_146 => ?_)
                    subst er_146
                    refine lv_iload hx hb dL_isDisputed_440 (lv_at hl 2 rfl) ?_
                    refine lv_iload hx hb dL_isDisputed_442 (lv_at hl 1 rfl) ?_
                    refine lv_isub hx hb dL_isDisputed_444 ?_
                    refine lv_topi (fun x_147 ex_147 => ?_)
                    refine lv_icmp_ne (tgt := 499) hx hb dL_isDisputed_445 (by decide) (fun z => absurd ((by rw [hrr_83, ex_147]; exact P_spd1 hJ (by omega) (by omega) hfi bc_76 : spdS rr_83 n j = x_147)) z) (fun _ => ?_)
                    refine lv_iload hx hb dL_isDisputed_448 (lv_at hl 15 rfl) ?_
                    refine lv_if_ne (tgt := 465) hx hb dL_isDisputed_450 (by decide) (fun c_148 => ?_) (fun c_148 => ?_)
                    · have bc_148 : (bb) = true := bI_1 (fun z => c_148 (rfl.trans z))
                      refine lv_aload_n hx hb dL_isDisputed_465 rfl (lv_at hl 7 rfl) ?_
                      refine lv_iload hx hb dL_isDisputed_466 (lv_at hl 12 rfl) ?_
                      refine lv_iload hx hb dL_isDisputed_468 (lv_at hl 13 rfl) ?_
                      refine vp_callSi (W.runV (As := [.int p5, .int p6]) (rest := []) ⟨hx, hb, hml, hown, hts⟩ (r_X1_charge l hq (p5) (p6) (k) (j) (by omega) (by omega) e5 e6) (cwV 2 hts gL_isDisputed_X1_charge rfl rfl rfl (by decide +kernel) ⟨Nat.le_of_ble_eq_true rfl, Nat.le_of_ble_eq_true rfl⟩) (wy_pVR hK hw.1.1 hq.1 rfl) rfl rfl hl.1 rfl (lv_room (Nat.le_of_ble_eq_true rfl)) dL_isDisputed_470 ⟨(show 0 + 4 + 0 ≤ 8 by omega), (show 0 + 24 + 0 ≤ 48 by omega)⟩) (fun r_149 er_149 => ?_)
                      subst er_149
                      refine lv_iload hx hb dL_isDisputed_473 (lv_at hl 6 rfl) ?_
                      refine lv_icmp_ne (tgt := 499) hx hb dL_isDisputed_475 (by decide) (fun z => absurd ((by rw [hrr_83, va_up_self]; rfl : rch (rr_83 k) j = rch (rr k) j)) z) (fun _ => ?_)
                      refine lv_aload_n hx hb dL_isDisputed_478 rfl (lv_at hl 7 rfl) ?_
                      refine lv_bipush (v := 9) hx hb dL_isDisputed_479 (by decide) ?_
                      refine lv_iload hx hb dL_isDisputed_481 (lv_at hl 12 rfl) ?_
                      refine lv_iload hx hb dL_isDisputed_483 (lv_at hl 13 rfl) ?_
                      refine lv_iconst (v := 0) hx hb dL_isDisputed_485 (by decide) ?_
                      refine lv_iconst (v := 0) hx hb dL_isDisputed_486 (by decide) ?_
                      have hix_151 : ix p5 = k := by rw [e5]; exact ix_nI (by omega)
                      have hix_152 : ix p6 = j := by rw [e6]; exact ix_nI (by omega)
                      have hC_150 : slC n p5 p6 0 (!rdp (rr_83 (ix p5)) (ix p6) || rse (rr_83 (ix p5)) (ix p6)) = 3 := by rw [hix_151, hix_152]; exact slC_3 (okN_of e5 (by omega) (by omega)) (okN_of (n := 10) e6 (by omega) (by omega)) (rfl : (0 : Int32) = nI 0) (by decide) (by rw [hrr_83, va_up_self]; exact R_set)
                      refine wq_call0 (vx_runSX (As := [.ref ox, .int 9, .int p5, .int p6, .int 0, .int (bI false)]) (rest := []) ⟨hx, hb, hml, hown, hts⟩ (m_L_does_settle l hnt (fa := fa_105) hq (p5) (p6) (0) (false)) (vx_cwSW 6 hts gL_isDisputed_L_does rfl rfl rfl (by decide +kernel) ⟨Nat.le_of_ble_eq_true rfl, Nat.le_of_ble_eq_true rfl⟩) (wq_pre0 hK hE hZ hN hw hA) rfl rfl hl.1 rfl (lv_room (Nat.le_of_ble_eq_true rfl)) dL_isDisputed_487 ⟨(show 0 + 4 + 4 ≤ 8 by omega), (show 0 + 24 + 24 ≤ 48 by omega)⟩) hw hA (fun r_150 L_150 f_150 fx_150 H locs hp hw => ?_)
                      obtain ⟨er, hq⟩ := wd_er hp (by rw [hC_150]; decide) hq
                      have er : r_150 = .int (-10) := er.trans (congrArg Value.int (by rw [hC_150]; decide))
                      subst er
                      refine lv_bipush (v := (-10)) hx hb dL_isDisputed_490 (by decide) ?_
                      refine lv_icmp_ne (tgt := 499) hx hb dL_isDisputed_492 (by decide) (fun z => absurd z (by decide)) (fun _ => ?_)
                      refine lv_iconst (v := 1) hx hb dL_isDisputed_495 (by decide) ?_
                      refine lv_goto (tgt := 500) hx hb dL_isDisputed_496 (by decide) ?_
                      exact wq_zret (b := true) rfl hx hb hr hlocks dL_isDisputed_500 hw (show 0 + 4 + 4 ≤ 8 by omega) (show 0 + 24 + 24 ≤ 48 by omega) ⟨rfl, ra, ar, n, km, mn, wk, po, rr_83, d, v, o_90, fr_99, g_108, hq, ⟨hc_109, hc_110, hc_111, hc_112, hc_106, hne⟩, (by rw [hrr_83]; exact J_ref hJ ht (by omega) (by omega) bc_14 e7 (by omega)), (by rw [hrr_83]; exact B_ref hB hJ (by omega) hn20 (by omega) bc_14 bc_76 nx_84 (ho_90.trans (by rw [ex_86, ex_85])) (hfr_99.trans (by rw [ex_95])) (hg_108.trans (by rw [ex_104])))⟩
                    · have bc_148 : (bb) = false := bI_0 (rfl.symm.trans c_148)
                      refine lv_aload_n hx hb dL_isDisputed_453 rfl (lv_at hl 7 rfl) ?_
                      refine vp_callSi (W.runV (As := []) (rest := []) ⟨hx, hb, hml, hown, hts⟩ (m_X1_house l hq) (cwV 0 hts gL_isDisputed_X1_house rfl rfl rfl (by decide +kernel) ⟨Nat.le_of_ble_eq_true rfl, Nat.le_of_ble_eq_true rfl⟩) (wy_pVR hK hw.1.1 hq.1 rfl) rfl rfl hl.1 rfl (lv_room (Nat.le_of_ble_eq_true rfl)) dL_isDisputed_454 ⟨(show 0 + 4 + 0 ≤ 8 by omega), (show 0 + 24 + 0 ≤ 48 by omega)⟩) (fun r_153 er_153 => ?_)
                      subst er_153
                      refine lv_iload hx hb dL_isDisputed_457 (lv_at hl 3 rfl) ?_
                      refine lv_iload hx hb dL_isDisputed_459 (lv_at hl 1 rfl) ?_
                      refine lv_isub hx hb dL_isDisputed_461 ?_
                      refine lv_topi (fun x_154 ex_154 => ?_)
                      refine lv_icmp_ne (tgt := 499) hx hb dL_isDisputed_462 (by decide) (fun z => absurd ((by rw [hrr_83, ex_154, bc_148]; exact P_hou1 hJ (by omega) (by omega) hfi bc_76 : houS rr_83 n wk = x_154)) z) (fun _ => ?_)
                      refine lv_aload_n hx hb dL_isDisputed_465 rfl (lv_at hl 7 rfl) ?_
                      refine lv_iload hx hb dL_isDisputed_466 (lv_at hl 12 rfl) ?_
                      refine lv_iload hx hb dL_isDisputed_468 (lv_at hl 13 rfl) ?_
                      refine vp_callSi (W.runV (As := [.int p5, .int p6]) (rest := []) ⟨hx, hb, hml, hown, hts⟩ (r_X1_charge l hq (p5) (p6) (k) (j) (by omega) (by omega) e5 e6) (cwV 2 hts gL_isDisputed_X1_charge rfl rfl rfl (by decide +kernel) ⟨Nat.le_of_ble_eq_true rfl, Nat.le_of_ble_eq_true rfl⟩) (wy_pVR hK hw.1.1 hq.1 rfl) rfl rfl hl.1 rfl (lv_room (Nat.le_of_ble_eq_true rfl)) dL_isDisputed_470 ⟨(show 0 + 4 + 0 ≤ 8 by omega), (show 0 + 24 + 0 ≤ 48 by omega)⟩) (fun r_155 er_155 => ?_)
                      subst er_155
                      refine lv_iload hx hb dL_isDisputed_473 (lv_at hl 6 rfl) ?_
                      refine lv_icmp_ne (tgt := 499) hx hb dL_isDisputed_475 (by decide) (fun z => absurd ((by rw [hrr_83, va_up_self]; rfl : rch (rr_83 k) j = rch (rr k) j)) z) (fun _ => ?_)
                      refine lv_aload_n hx hb dL_isDisputed_478 rfl (lv_at hl 7 rfl) ?_
                      refine lv_bipush (v := 9) hx hb dL_isDisputed_479 (by decide) ?_
                      refine lv_iload hx hb dL_isDisputed_481 (lv_at hl 12 rfl) ?_
                      refine lv_iload hx hb dL_isDisputed_483 (lv_at hl 13 rfl) ?_
                      refine lv_iconst (v := 0) hx hb dL_isDisputed_485 (by decide) ?_
                      refine lv_iconst (v := 0) hx hb dL_isDisputed_486 (by decide) ?_
                      have hix_157 : ix p5 = k := by rw [e5]; exact ix_nI (by omega)
                      have hix_158 : ix p6 = j := by rw [e6]; exact ix_nI (by omega)
                      have hC_156 : slC n p5 p6 0 (!rdp (rr_83 (ix p5)) (ix p6) || rse (rr_83 (ix p5)) (ix p6)) = 3 := by rw [hix_157, hix_158]; exact slC_3 (okN_of e5 (by omega) (by omega)) (okN_of (n := 10) e6 (by omega) (by omega)) (rfl : (0 : Int32) = nI 0) (by decide) (by rw [hrr_83, va_up_self]; exact R_set)
                      refine wq_call0 (vx_runSX (As := [.ref ox, .int 9, .int p5, .int p6, .int 0, .int (bI false)]) (rest := []) ⟨hx, hb, hml, hown, hts⟩ (m_L_does_settle l hnt (fa := fa_105) hq (p5) (p6) (0) (false)) (vx_cwSW 6 hts gL_isDisputed_L_does rfl rfl rfl (by decide +kernel) ⟨Nat.le_of_ble_eq_true rfl, Nat.le_of_ble_eq_true rfl⟩) (wq_pre0 hK hE hZ hN hw hA) rfl rfl hl.1 rfl (lv_room (Nat.le_of_ble_eq_true rfl)) dL_isDisputed_487 ⟨(show 0 + 4 + 4 ≤ 8 by omega), (show 0 + 24 + 24 ≤ 48 by omega)⟩) hw hA (fun r_156 L_156 f_156 fx_156 H locs hp hw => ?_)
                      obtain ⟨er, hq⟩ := wd_er hp (by rw [hC_156]; decide) hq
                      have er : r_156 = .int (-10) := er.trans (congrArg Value.int (by rw [hC_156]; decide))
                      subst er
                      refine lv_bipush (v := (-10)) hx hb dL_isDisputed_490 (by decide) ?_
                      refine lv_icmp_ne (tgt := 499) hx hb dL_isDisputed_492 (by decide) (fun z => absurd z (by decide)) (fun _ => ?_)
                      refine lv_iconst (v := 1) hx hb dL_isDisputed_495 (by decide) ?_
                      refine lv_goto (tgt := 500) hx hb dL_isDisputed_496 (by decide) ?_
                      exact wq_zret (b := true) rfl hx hb hr hlocks dL_isDisputed_500 hw (show 0 + 4 + 4 ≤ 8 by omega) (show 0 + 24 + 24 ≤ 48 by omega) ⟨rfl, ra, ar, n, km, mn, wk, po, rr_83, d, v, o_90, fr_99, g_108, hq, ⟨hc_109, hc_110, hc_111, hc_112, hc_106, hne⟩, (by rw [hrr_83]; exact J_ref hJ ht (by omega) (by omega) bc_14 e7 (by omega)), (by rw [hrr_83]; exact B_ref hB hJ (by omega) hn20 (by omega) bc_14 bc_76 nx_84 (ho_90.trans (by rw [ex_86, ex_85])) (hfr_99.trans (by rw [ex_95])) (hg_108.trans (by rw [ex_104])))⟩
                  exact JN_114 ls (lv_sub hl [0, 1, 2, 3, 4, 5, 6, 7, 8, 9, 10, 11, 12, 13, 14] rfl)
                · have nc_137 : ¬ (q < 100) := fun z => c_137 ((wy_lt e7 (rfl : (100 : Int32) = nI 100) (by omega) (by decide)).mpr z)
                  refine lv_iload hx hb dL_isDisputed_365 (lv_at hl 0 rfl) ?_
                  refine lv_iload hx hb dL_isDisputed_367 (lv_at hl 5 rfl) ?_
                  refine lv_icmp_ne (tgt := 426) hx hb dL_isDisputed_369 (by decide) (fun z => absurd (R_all hJ ht (k := k) (r := j) (by omega) (by omega) e7 (by omega)) z) (fun _ => ?_)
                  have JN_160 : ∀ ls : Array Slot, lv_has ls 16 [(14, .int (rfv (rr (k)) (j) p7)), (13, .int (spdS rr n j)), (12, .int (houS rr n wk)), (11, .int y_12), (10, .int y_10), (9, .int (rch (rr k) j)), (0, .ref ox), (1, .ref ad), (2, .ref ao), (3, .ref af), (4, .ref ag), (5, .int p5), (6, .int p6), (7, .int p7), (8, .int (bI bb))] → W p l e (headSpec wsL_isDisputed ({ frames := 9, cells := 8, slots := 48, locals := 182 } : Room)).room s m ([.ref ox, .ref ad, .ref ao, .ref af, .ref ag, .int p5, .int p6, .int p7, .int (bI bb)] : List Value).toArray below meth c H locs (0 + 4) (0 + 24) (MQ below (wq_Q G L0 La s.heap.size (fun r1 L1 f1 fa1 => r1 = .int (bI true) ∧ wZ G ox lo ad av ao af ag La (t + 1) L1 f1 fa1)) ([.ref ox, .ref ad, .ref ao, .ref af, .ref ag, .int p5, .int p6, .int p7, .int (bI bb)] : List Value).toArray s 8 48 (wy_A (L0 ++ La) s.heap.size)) (F0 m 382 ls []) := by
                    intro ls hl
                    refine lv_iload hx hb dL_isDisputed_382 (lv_at hl 0 rfl) ?_
                    refine lv_i2l (v := (rfv (rr (k)) (j) p7).toInt64) hx hb dL_isDisputed_384 rfl ?_
                    refine lv_ldc2 (v := 100) hx hb hown (hts (.constantLong RL 125 (100)) (by decide +kernel)) dL_isDisputed_385 ?_
                    refine lv_lmul hx hb dL_isDisputed_388 ?_
                    refine lv_iload hx hb dL_isDisputed_389 (lv_at hl 5 rfl) ?_
                    refine lv_i2l (v := (rch (rr k) j).toInt64) hx hb dL_isDisputed_391 rfl ?_
                    refine lv_iload hx hb dL_isDisputed_392 (lv_at hl 13 rfl) ?_
                    refine lv_i2l (v := p7.toInt64) hx hb dL_isDisputed_394 rfl ?_
                    refine lv_lmul hx hb dL_isDisputed_395 ?_
                    refine W.lcmp hx hb dL_isDisputed_396 ?_
                    refine lv_if_gt (tgt := 426) hx hb dL_isDisputed_397 (by decide) (fun z => absurd z (R_l1 hJ ht (k := k) (r := j) (by omega) (by omega) e7 (by omega))) (fun _ => ?_)
                    refine lv_iload hx hb dL_isDisputed_400 (lv_at hl 0 rfl) ?_
                    refine lv_i2l (v := (rfv (rr (k)) (j) p7).toInt64) hx hb dL_isDisputed_402 rfl ?_
                    refine lv_ldc2 (v := 100) hx hb hown (hts (.constantLong RL 125 (100)) (by decide +kernel)) dL_isDisputed_403 ?_
                    refine lv_lmul hx hb dL_isDisputed_406 ?_
                    refine lv_iload hx hb dL_isDisputed_407 (lv_at hl 5 rfl) ?_
                    refine lv_i2l (v := (rch (rr k) j).toInt64) hx hb dL_isDisputed_409 rfl ?_
                    refine lv_iload hx hb dL_isDisputed_410 (lv_at hl 13 rfl) ?_
                    refine lv_i2l (v := p7.toInt64) hx hb dL_isDisputed_412 rfl ?_
                    refine lv_lmul hx hb dL_isDisputed_413 ?_
                    refine lv_ldc2 (v := 100) hx hb hown (hts (.constantLong RL 125 (100)) (by decide +kernel)) dL_isDisputed_414 ?_
                    refine lv_lsub hx hb dL_isDisputed_417 ?_
                    refine W.lcmp hx hb dL_isDisputed_418 ?_
                    refine lv_if_le (tgt := 426) hx hb dL_isDisputed_419 (by decide) (fun z => absurd z (R_l2 hJ ht (k := k) (r := j) (by omega) (by omega) e7 (by omega))) (fun _ => ?_)
                    refine lv_iconst (v := 1) hx hb dL_isDisputed_422 (by decide) ?_
                    refine lv_goto (tgt := 427) hx hb dL_isDisputed_423 (by decide) ?_
                    refine lv_istore (lv' := [(15, .int 1), (14, .int (rfv (rr (k)) (j) p7)), (13, .int (spdS rr n j)), (12, .int (houS rr n wk)), (11, .int y_12), (10, .int y_10), (9, .int (rch (rr k) j)), (0, .ref ox), (1, .ref ad), (2, .ref ao), (3, .ref af), (4, .ref ag), (5, .int p5), (6, .int p6), (7, .int p7), (8, .int (bI bb))]) hx hb dL_isDisputed_427 hl (by decide) rfl (fun ls hl => ?_)
                    refine lv_iload hx hb dL_isDisputed_429 (lv_at hl 0 rfl) ?_
                    refine lv_if_eq (tgt := 499) hx hb dL_isDisputed_431 (by decide) (fun z => absurd z (by decide)) (fun _ => ?_)
                    refine lv_aload_n hx hb dL_isDisputed_434 rfl (lv_at hl 7 rfl) ?_
                    refine lv_iload hx hb dL_isDisputed_435 (lv_at hl 13 rfl) ?_
                    refine vp_callSi (W.runV (As := [.int p6]) (rest := []) ⟨hx, hb, hml, hown, hts⟩ (r_X1_spent l hq (p6) (j) (by omega) e6) (cwV 1 hts gL_isDisputed_X1_spent rfl rfl rfl (by decide +kernel) ⟨Nat.le_of_ble_eq_true rfl, Nat.le_of_ble_eq_true rfl⟩) (wy_pVR hK hw.1.1 hq.1 rfl) rfl rfl hl.1 rfl (lv_room (Nat.le_of_ble_eq_true rfl)) dL_isDisputed_437 ⟨(show 0 + 4 + 0 ≤ 8 by omega), (show 0 + 24 + 0 ≤ 48 by omega)⟩) (fun r_167 er_167 => ?_)
                    subst er_167
                    refine lv_iload hx hb dL_isDisputed_440 (lv_at hl 2 rfl) ?_
                    refine lv_iload hx hb dL_isDisputed_442 (lv_at hl 1 rfl) ?_
                    refine lv_isub hx hb dL_isDisputed_444 ?_
                    refine lv_topi (fun x_168 ex_168 => ?_)
                    refine lv_icmp_ne (tgt := 499) hx hb dL_isDisputed_445 (by decide) (fun z => absurd ((by rw [hrr_83, ex_168]; exact P_spd1 hJ (by omega) (by omega) hfi bc_76 : spdS rr_83 n j = x_168)) z) (fun _ => ?_)
                    refine lv_iload hx hb dL_isDisputed_448 (lv_at hl 15 rfl) ?_
                    refine lv_if_ne (tgt := 465) hx hb dL_isDisputed_450 (by decide) (fun c_169 => ?_) (fun c_169 => ?_)
                    · have bc_169 : (bb) = true := bI_1 (fun z => c_169 (rfl.trans z))
                      refine lv_aload_n hx hb dL_isDisputed_465 rfl (lv_at hl 7 rfl) ?_
                      refine lv_iload hx hb dL_isDisputed_466 (lv_at hl 12 rfl) ?_
                      refine lv_iload hx hb dL_isDisputed_468 (lv_at hl 13 rfl) ?_
                      refine vp_callSi (W.runV (As := [.int p5, .int p6]) (rest := []) ⟨hx, hb, hml, hown, hts⟩ (r_X1_charge l hq (p5) (p6) (k) (j) (by omega) (by omega) e5 e6) (cwV 2 hts gL_isDisputed_X1_charge rfl rfl rfl (by decide +kernel) ⟨Nat.le_of_ble_eq_true rfl, Nat.le_of_ble_eq_true rfl⟩) (wy_pVR hK hw.1.1 hq.1 rfl) rfl rfl hl.1 rfl (lv_room (Nat.le_of_ble_eq_true rfl)) dL_isDisputed_470 ⟨(show 0 + 4 + 0 ≤ 8 by omega), (show 0 + 24 + 0 ≤ 48 by omega)⟩) (fun r_170 er_170 => ?_)
                      subst er_170
                      refine lv_iload hx hb dL_isDisputed_473 (lv_at hl 6 rfl) ?_
                      refine lv_icmp_ne (tgt := 499) hx hb dL_isDisputed_475 (by decide) (fun z => absurd ((by rw [hrr_83, va_up_self]; rfl : rch (rr_83 k) j = rch (rr k) j)) z) (fun _ => ?_)
                      refine lv_aload_n hx hb dL_isDisputed_478 rfl (lv_at hl 7 rfl) ?_
                      refine lv_bipush (v := 9) hx hb dL_isDisputed_479 (by decide) ?_
                      refine lv_iload hx hb dL_isDisputed_481 (lv_at hl 12 rfl) ?_
                      refine lv_iload hx hb dL_isDisputed_483 (lv_at hl 13 rfl) ?_
                      refine lv_iconst (v := 0) hx hb dL_isDisputed_485 (by decide) ?_
                      refine lv_iconst (v := 0) hx hb dL_isDisputed_486 (by decide) ?_
                      have hix_172 : ix p5 = k := by rw [e5]; exact ix_nI (by omega)
                      have hix_173 : ix p6 = j := by rw [e6]; exact ix_nI (by omega)
                      have hC_171 : slC n p5 p6 0 (!rdp (rr_83 (ix p5)) (ix p6) || rse (rr_83 (ix p5)) (ix p6)) = 3 := by rw [hix_172, hix_173]; exact slC_3 (okN_of e5 (by omega) (by omega)) (okN_of (n := 10) e6 (by omega) (by omega)) (rfl : (0 : Int32) = nI 0) (by decide) (by rw [hrr_83, va_up_self]; exact R_set)
                      refine wq_call0 (vx_runSX (As := [.ref ox, .int 9, .int p5, .int p6, .int 0, .int (bI false)]) (rest := []) ⟨hx, hb, hml, hown, hts⟩ (m_L_does_settle l hnt (fa := fa_105) hq (p5) (p6) (0) (false)) (vx_cwSW 6 hts gL_isDisputed_L_does rfl rfl rfl (by decide +kernel) ⟨Nat.le_of_ble_eq_true rfl, Nat.le_of_ble_eq_true rfl⟩) (wq_pre0 hK hE hZ hN hw hA) rfl rfl hl.1 rfl (lv_room (Nat.le_of_ble_eq_true rfl)) dL_isDisputed_487 ⟨(show 0 + 4 + 4 ≤ 8 by omega), (show 0 + 24 + 24 ≤ 48 by omega)⟩) hw hA (fun r_171 L_171 f_171 fx_171 H locs hp hw => ?_)
                      obtain ⟨er, hq⟩ := wd_er hp (by rw [hC_171]; decide) hq
                      have er : r_171 = .int (-10) := er.trans (congrArg Value.int (by rw [hC_171]; decide))
                      subst er
                      refine lv_bipush (v := (-10)) hx hb dL_isDisputed_490 (by decide) ?_
                      refine lv_icmp_ne (tgt := 499) hx hb dL_isDisputed_492 (by decide) (fun z => absurd z (by decide)) (fun _ => ?_)
                      refine lv_iconst (v := 1) hx hb dL_isDisputed_495 (by decide) ?_
                      refine lv_goto (tgt := 500) hx hb dL_isDisputed_496 (by decide) ?_
                      exact wq_zret (b := true) rfl hx hb hr hlocks dL_isDisputed_500 hw (show 0 + 4 + 4 ≤ 8 by omega) (show 0 + 24 + 24 ≤ 48 by omega) ⟨rfl, ra, ar, n, km, mn, wk, po, rr_83, d, v, o_90, fr_99, g_108, hq, ⟨hc_109, hc_110, hc_111, hc_112, hc_106, hne⟩, (by rw [hrr_83]; exact J_ref hJ ht (by omega) (by omega) bc_14 e7 (by omega)), (by rw [hrr_83]; exact B_ref hB hJ (by omega) hn20 (by omega) bc_14 bc_76 nx_84 (ho_90.trans (by rw [ex_86, ex_85])) (hfr_99.trans (by rw [ex_95])) (hg_108.trans (by rw [ex_104])))⟩
                    · have bc_169 : (bb) = false := bI_0 (rfl.symm.trans c_169)
                      refine lv_aload_n hx hb dL_isDisputed_453 rfl (lv_at hl 7 rfl) ?_
                      refine vp_callSi (W.runV (As := []) (rest := []) ⟨hx, hb, hml, hown, hts⟩ (m_X1_house l hq) (cwV 0 hts gL_isDisputed_X1_house rfl rfl rfl (by decide +kernel) ⟨Nat.le_of_ble_eq_true rfl, Nat.le_of_ble_eq_true rfl⟩) (wy_pVR hK hw.1.1 hq.1 rfl) rfl rfl hl.1 rfl (lv_room (Nat.le_of_ble_eq_true rfl)) dL_isDisputed_454 ⟨(show 0 + 4 + 0 ≤ 8 by omega), (show 0 + 24 + 0 ≤ 48 by omega)⟩) (fun r_174 er_174 => ?_)
                      subst er_174
                      refine lv_iload hx hb dL_isDisputed_457 (lv_at hl 3 rfl) ?_
                      refine lv_iload hx hb dL_isDisputed_459 (lv_at hl 1 rfl) ?_
                      refine lv_isub hx hb dL_isDisputed_461 ?_
                      refine lv_topi (fun x_175 ex_175 => ?_)
                      refine lv_icmp_ne (tgt := 499) hx hb dL_isDisputed_462 (by decide) (fun z => absurd ((by rw [hrr_83, ex_175, bc_169]; exact P_hou1 hJ (by omega) (by omega) hfi bc_76 : houS rr_83 n wk = x_175)) z) (fun _ => ?_)
                      refine lv_aload_n hx hb dL_isDisputed_465 rfl (lv_at hl 7 rfl) ?_
                      refine lv_iload hx hb dL_isDisputed_466 (lv_at hl 12 rfl) ?_
                      refine lv_iload hx hb dL_isDisputed_468 (lv_at hl 13 rfl) ?_
                      refine vp_callSi (W.runV (As := [.int p5, .int p6]) (rest := []) ⟨hx, hb, hml, hown, hts⟩ (r_X1_charge l hq (p5) (p6) (k) (j) (by omega) (by omega) e5 e6) (cwV 2 hts gL_isDisputed_X1_charge rfl rfl rfl (by decide +kernel) ⟨Nat.le_of_ble_eq_true rfl, Nat.le_of_ble_eq_true rfl⟩) (wy_pVR hK hw.1.1 hq.1 rfl) rfl rfl hl.1 rfl (lv_room (Nat.le_of_ble_eq_true rfl)) dL_isDisputed_470 ⟨(show 0 + 4 + 0 ≤ 8 by omega), (show 0 + 24 + 0 ≤ 48 by omega)⟩) (fun r_176 er_176 => ?_)
                      subst er_176
                      refine lv_iload hx hb dL_isDisputed_473 (lv_at hl 6 rfl) ?_
                      refine lv_icmp_ne (tgt := 499) hx hb dL_isDisputed_475 (by decide) (fun z => absurd ((by rw [hrr_83, va_up_self]; rfl : rch (rr_83 k) j = rch (rr k) j)) z) (fun _ => ?_)
                      refine lv_aload_n hx hb dL_isDisputed_478 rfl (lv_at hl 7 rfl) ?_
                      refine lv_bipush (v := 9) hx hb dL_isDisputed_479 (by decide) ?_
                      refine lv_iload hx hb dL_isDisputed_481 (lv_at hl 12 rfl) ?_
                      refine lv_iload hx hb dL_isDisputed_483 (lv_at hl 13 rfl) ?_
                      refine lv_iconst (v := 0) hx hb dL_isDisputed_485 (by decide) ?_
                      refine lv_iconst (v := 0) hx hb dL_isDisputed_486 (by decide) ?_
                      have hix_178 : ix p5 = k := by rw [e5]; exact ix_nI (by omega)
                      have hix_179 : ix p6 = j := by rw [e6]; exact ix_nI (by omega)
                      have hC_177 : slC n p5 p6 0 (!rdp (rr_83 (ix p5)) (ix p6) || rse (rr_83 (ix p5)) (ix p6)) = 3 := by rw [hix_178, hix_179]; exact slC_3 (okN_of e5 (by omega) (by omega)) (okN_of (n := 10) e6 (by omega) (by omega)) (rfl : (0 : Int32) = nI 0) (by decide) (by rw [hrr_83, va_up_self]; exact R_set)
                      refine wq_call0 (vx_runSX (As := [.ref ox, .int 9, .int p5, .int p6, .int 0, .int (bI false)]) (rest := []) ⟨hx, hb, hml, hown, hts⟩ (m_L_does_settle l hnt (fa := fa_105) hq (p5) (p6) (0) (false)) (vx_cwSW 6 hts gL_isDisputed_L_does rfl rfl rfl (by decide +kernel) ⟨Nat.le_of_ble_eq_true rfl, Nat.le_of_ble_eq_true rfl⟩) (wq_pre0 hK hE hZ hN hw hA) rfl rfl hl.1 rfl (lv_room (Nat.le_of_ble_eq_true rfl)) dL_isDisputed_487 ⟨(show 0 + 4 + 4 ≤ 8 by omega), (show 0 + 24 + 24 ≤ 48 by omega)⟩) hw hA (fun r_177 L_177 f_177 fx_177 H locs hp hw => ?_)
                      obtain ⟨er, hq⟩ := wd_er hp (by rw [hC_177]; decide) hq
                      have er : r_177 = .int (-10) := er.trans (congrArg Value.int (by rw [hC_177]; decide))
                      subst er
                      refine lv_bipush (v := (-10)) hx hb dL_isDisputed_490 (by decide) ?_
                      refine lv_icmp_ne (tgt := 499) hx hb dL_isDisputed_492 (by decide) (fun z => absurd z (by decide)) (fun _ => ?_)
                      refine lv_iconst (v := 1) hx hb dL_isDisputed_495 (by decide) ?_
                      refine lv_goto (tgt := 500) hx hb dL_isDisputed_496 (by decide) ?_
                      exact wq_zret (b := true) rfl hx hb hr hlocks dL_isDisputed_500 hw (show 0 + 4 + 4 ≤ 8 by omega) (show 0 + 24 + 24 ≤ 48 by omega) ⟨rfl, ra, ar, n, km, mn, wk, po, rr_83, d, v, o_90, fr_99, g_108, hq, ⟨hc_109, hc_110, hc_111, hc_112, hc_106, hne⟩, (by rw [hrr_83]; exact J_ref hJ ht (by omega) (by omega) bc_14 e7 (by omega)), (by rw [hrr_83]; exact B_ref hB hJ (by omega) hn20 (by omega) bc_14 bc_76 nx_84 (ho_90.trans (by rw [ex_86, ex_85])) (hfr_99.trans (by rw [ex_95])) (hg_108.trans (by rw [ex_104])))⟩
                  exact JN_114 ls (lv_sub hl [0, 1, 2, 3, 4, 5, 6, 7, 8, 9, 10, 11, 12, 13, 14] rfl)
              · have nc_79 : ¬ (q ≤ 100) := fun z => c_79 ((wy_le e7 (rfl : (100 : Int32) = nI 100) (by omega) (by decide)).mpr z)
                refine lv_aload_n hx hb dL_isDisputed_257 rfl (lv_at hl 5 rfl) ?_
                refine lv_bipush (v := 9) hx hb dL_isDisputed_258 (by decide) ?_
                refine lv_iload hx hb dL_isDisputed_260 (lv_at hl 10 rfl) ?_
                refine lv_iload hx hb dL_isDisputed_262 (lv_at hl 11 rfl) ?_
                refine lv_iload hx hb dL_isDisputed_264 (lv_at hl 12 rfl) ?_
                refine lv_iload hx hb dL_isDisputed_266 (lv_at hl 13 rfl) ?_
                have hix_181 : ix p5 = k := by rw [e5]; exact ix_nI (by omega)
                have hix_182 : ix p6 = j := by rw [e6]; exact ix_nI (by omega)
                have hC_180 : slC n p5 p6 p7 (!rdp (rr (ix p5)) (ix p6) || rse (rr (ix p5)) (ix p6)) = 2 := by rw [hix_181, hix_182]; exact slC_2 (okN_of e5 (by omega) (by omega)) (okN_of (n := 10) e6 (by omega) (by omega)) e7 (by omega) (by omega)
                refine wq_call0 (vx_runSX (As := [.ref ox, .int 9, .int p5, .int p6, .int p7, .int (bI bb)]) (rest := []) ⟨hx, hb, hml, hown, hts⟩ (m_L_does_settle l hnt (fa := fa) hq (p5) (p6) (p7) (bb)) (vx_cwSW 6 hts gL_isDisputed_L_does rfl rfl rfl (by decide +kernel) ⟨Nat.le_of_ble_eq_true rfl, Nat.le_of_ble_eq_true rfl⟩) (wq_pre0 hK hE hZ hN hw hA) rfl rfl hl.1 rfl (lv_room (Nat.le_of_ble_eq_true rfl)) dL_isDisputed_268 ⟨(show 0 + 4 ≤ 8 by omega), (show 0 + 24 ≤ 48 by omega)⟩) hw hA (fun r_180 L_180 f_180 fx_180 H locs hp hw => ?_)
                obtain ⟨er, hq⟩ := wd_er hp (by rw [hC_180]; decide) hq
                have er : r_180 = .int (-20) := er.trans (congrArg Value.int (by rw [hC_180]; decide))
                subst er
                refine lv_bipush (v := (-20)) hx hb dL_isDisputed_271 (by decide) ?_
                refine lv_icmp_ne (tgt := 297) hx hb dL_isDisputed_273 (by decide) (fun z => absurd z (by decide)) (fun _ => ?_)
                refine lv_aload_n hx hb dL_isDisputed_276 rfl (lv_at hl 5 rfl) ?_
                refine lv_bipush (v := 8) hx hb dL_isDisputed_277 (by decide) ?_
                refine lv_iload hx hb dL_isDisputed_279 (lv_at hl 10 rfl) ?_
                refine lv_iload hx hb dL_isDisputed_281 (lv_at hl 11 rfl) ?_
                refine lv_iconst (v := 0) hx hb dL_isDisputed_283 (by decide) ?_
                refine lv_iconst (v := 0) hx hb dL_isDisputed_284 (by decide) ?_
                have hix_184 : ix p5 = k := by rw [e5]; exact ix_nI (by omega)
                have hix_185 : ix p6 = j := by rw [e6]; exact ix_nI (by omega)
                have hC_183 : rdC n p5 p6 (dsB (rr (ix p5)) (ix p6)) = 2 := by rw [hix_184, hix_185]; exact rdC_no (okN_of e5 (by omega) (by omega)) (okN_of (n := 10) e6 (by omega) (by omega)) (by simp [dsB, bc_14])
                refine wq_call0 (vx_runSX (As := [.ref ox, .int 8, .int p5, .int p6, .int 0, .int (bI false)]) (rest := []) ⟨hx, hb, hml, hown, hts⟩ (m_L_does_dispute l hnt (fa := fa) hq (p5) (p6) (0) (false)) (vx_cwSW 6 hts gL_isDisputed_L_does rfl rfl rfl (by decide +kernel) ⟨Nat.le_of_ble_eq_true rfl, Nat.le_of_ble_eq_true rfl⟩) (wq_pre0 hK hE hZ hN hw hA) rfl rfl hl.1 rfl (lv_room (Nat.le_of_ble_eq_true rfl)) dL_isDisputed_285 ⟨(show 0 + 4 + 3 ≤ 8 by omega), (show 0 + 24 + 18 ≤ 48 by omega)⟩) hw hA (fun r_183 L_183 f_183 fx_183 H locs hp hw => ?_)
                obtain ⟨er, hq⟩ := wd_er hp (by rw [hC_183]; decide) hq
                have er : r_183 = .int (-10) := er.trans (congrArg Value.int (by rw [hC_183]; decide))
                subst er
                refine lv_bipush (v := (-10)) hx hb dL_isDisputed_288 (by decide) ?_
                refine lv_icmp_ne (tgt := 297) hx hb dL_isDisputed_290 (by decide) (fun z => absurd z (by decide)) (fun _ => ?_)
                refine lv_iconst (v := 1) hx hb dL_isDisputed_293 (by decide) ?_
                refine lv_goto (tgt := 298) hx hb dL_isDisputed_294 (by decide) ?_
                exact wq_zret (b := true) rfl hx hb hr hlocks dL_isDisputed_298 hw (show 0 + 4 + 3 ≤ 8 by omega) (show 0 + 24 + 18 ≤ 48 by omega) ⟨rfl, ra, ar, n, km, mn, wk, po, rr, d, v, o, fr, g, hq, ⟨hR.1, hR.2.1, hR.2.2.1, hR.2.2.2.1, hR.2.2.2.2.1, hne⟩, hJ.up, hB⟩
            · have bc_76 : (rse (rr k) j) = true := bI_1 (fun z => c_76 (hy_12.trans z))
              have JN_187 : ∀ (y_186 : Int32), y_186 = bI (!dsB (rr k) j) → ∀ ls : Array Slot, lv_has ls 16 [(11, .int y_12), (10, .int y_10), (9, .int (rch (rr k) j)), (0, .ref ox), (1, .ref ad), (2, .ref ao), (3, .ref af), (4, .ref ag), (5, .int p5), (6, .int p6), (7, .int p7), (8, .int (bI bb))] → W p l e (headSpec wsL_isDisputed ({ frames := 9, cells := 8, slots := 48, locals := 182 } : Room)).room s m ([.ref ox, .ref ad, .ref ao, .ref af, .ref ag, .int p5, .int p6, .int p7, .int (bI bb)] : List Value).toArray below meth c s.heap [] (0) (0) (MQ below (wq_Q G L0 La s.heap.size (fun r1 L1 f1 fa1 => r1 = .int (bI true) ∧ wZ G ox lo ad av ao af ag La (t + 1) L1 f1 fa1)) ([.ref ox, .ref ad, .ref ao, .ref af, .ref ag, .int p5, .int p6, .int p7, .int (bI bb)] : List Value).toArray s 8 48 (wy_A (L0 ++ La) s.heap.size)) (F0 m 146 ls [.int y_186]) := by
                intro y_186 hy_186 ls hl
                refine lv_istore (lv' := [(12, .int y_186), (11, .int y_12), (10, .int y_10), (9, .int (rch (rr k) j)), (0, .ref ox), (1, .ref ad), (2, .ref ao), (3, .ref af), (4, .ref ag), (5, .int p5), (6, .int p6), (7, .int p7), (8, .int (bI bb))]) hx hb dL_isDisputed_146 hl (by decide) rfl (fun ls hl => ?_)
                refine lv_aload_n hx hb dL_isDisputed_148 rfl (lv_at hl 6 rfl) ?_
                refine lv_iload hx hb dL_isDisputed_149 (lv_at hl 9 rfl) ?_
                refine lv_dup2_11 hx hb dL_isDisputed_151 rfl rfl ?_
                refine wy_iald hx hb hK hw.2.1.1 hR.2.2.1 (k) e5 (by omega) (by omega) dL_isDisputed_152 ?_
                refine lv_iload hx hb dL_isDisputed_153 (lv_at hl 0 rfl) ?_
                refine lv_if_eq (tgt := 165) hx hb dL_isDisputed_155 (by decide) (fun c_188 => ?_) (fun c_188 => ?_)
                · have bc_188 : (!dsB (rr k) j) = false := bI_0 (hy_186.symm.trans c_188)
                  have hcan : dsB (rr k) j = true := by simpa using bc_188
                  refine lv_iconst (v := 0) hx hb dL_isDisputed_165 (by decide) ?_
                  refine lv_ior hx hb dL_isDisputed_166 ?_
                  refine lv_topi (fun x_189 ex_189 => ?_)
                  refine wq_iast hx hb hK hw hR.2.2.1 (k) e5 (by omega) (by omega) dL_isDisputed_167 (fun H locs fa_190 hc_191 hn_192 hw => ?_)
                  obtain ⟨o_193, ho_193⟩ : ∃ y, y = upd o (k) (x_189) := ⟨_, rfl⟩
                  rw [← ho_193] at hc_191
                  have hc_194 := wy_c.ne2 hR.1 hn_192 hne.2.1
                  have hc_195 := wy_c.ne2 hR.2.1 hn_192 hne.2.2.2.2.1
                  have hc_196 := wy_c.ne2 hR.2.2.2.1 hn_192 (Ne.symm hne.2.2.2.2.2.2.2.1)
                  have hc_197 := wy_c.ne2 hR.2.2.2.2.1 hn_192 (Ne.symm hne.2.2.2.2.2.2.2.2.1)
                  refine lv_aload hx hb dL_isDisputed_168 (lv_at hl 8 rfl) ?_
                  refine lv_iconst (v := 4) hx hb dL_isDisputed_170 (by decide) ?_
                  refine lv_dup2_11 hx hb dL_isDisputed_171 rfl rfl ?_
                  refine wy_iald hx hb hK hw.2.1.1 hc_197 (4) (rfl : (4 : Int32) = nI 4) (by omega) (by omega) dL_isDisputed_172 ?_
                  refine lv_iload hx hb dL_isDisputed_173 (lv_at hl 0 rfl) ?_
                  refine lv_if_eq (tgt := 182) hx hb dL_isDisputed_175 (by decide) (fun c_198 => ?_) (fun c_198 => ?_)
                  · have bc_198 : (!dsB (rr k) j) = false := bI_0 (hy_186.symm.trans c_198)
                    refine lv_iconst (v := 0) hx hb dL_isDisputed_182 (by decide) ?_
                    refine lv_iadd hx hb dL_isDisputed_183 ?_
                    refine lv_topi (fun x_199 ex_199 => ?_)
                    refine wq_iast hx hb hK hw hc_197 (4) (rfl : (4 : Int32) = nI 4) (by omega) (by omega) dL_isDisputed_184 (fun H locs fa_200 hc_201 hn_202 hw => ?_)
                    obtain ⟨g_203, hg_203⟩ : ∃ y, y = upd g (4) (x_199) := ⟨_, rfl⟩
                    rw [← hg_203] at hc_201
                    have hc_204 := wy_c.ne2 hc_194 hn_202 hne.2.2.2.1
                    have hc_205 := wy_c.ne2 hc_195 hn_202 hne.2.2.2.2.2.2.1
                    have hc_206 := wy_c.ne2 hc_191 hn_202 hne.2.2.2.2.2.2.2.2.1
                    have hc_207 := wy_c.ne2 hc_196 hn_202 hne.2.2.2.2.2.2.2.2.2
                    refine lv_aload_n hx hb dL_isDisputed_185 rfl (lv_at hl 4 rfl) ?_
                    refine lv_bipush (v := 9) hx hb dL_isDisputed_186 (by decide) ?_
                    refine lv_iload hx hb dL_isDisputed_188 (lv_at hl 9 rfl) ?_
                    refine lv_iload hx hb dL_isDisputed_190 (lv_at hl 10 rfl) ?_
                    refine lv_bipush (v := 50) hx hb dL_isDisputed_192 (by decide) ?_
                    refine lv_iconst (v := 0) hx hb dL_isDisputed_194 (by decide) ?_
                    have hix_209 : ix p5 = k := by rw [e5]; exact ix_nI (by omega)
                    have hix_210 : ix p6 = j := by rw [e6]; exact ix_nI (by omega)
                    have hC_208 : slC n p5 p6 50 (!rdp (rr (ix p5)) (ix p6) || rse (rr (ix p5)) (ix p6)) = 3 := by rw [hix_209, hix_210]; exact slC_3 (okN_of e5 (by omega) (by omega)) (okN_of (n := 10) e6 (by omega) (by omega)) (rfl : (50 : Int32) = nI 50) (by decide) (by simp [bc_76])
                    refine wq_call0 (vx_runSX (As := [.ref ox, .int 9, .int p5, .int p6, .int 50, .int (bI false)]) (rest := []) ⟨hx, hb, hml, hown, hts⟩ (m_L_does_settle l hnt (fa := fa_200) hq (p5) (p6) (50) (false)) (vx_cwSW 6 hts gL_isDisputed_L_does rfl rfl rfl (by decide +kernel) ⟨Nat.le_of_ble_eq_true rfl, Nat.le_of_ble_eq_true rfl⟩) (wq_pre0 hK hE hZ hN hw hA) rfl rfl hl.1 rfl (lv_room (Nat.le_of_ble_eq_true rfl)) dL_isDisputed_195 ⟨(show 0 + 4 ≤ 8 by omega), (show 0 + 24 ≤ 48 by omega)⟩) hw hA (fun r_208 L_208 f_208 fx_208 H locs hp hw => ?_)
                    obtain ⟨er, hq⟩ := wd_er hp (by rw [hC_208]; decide) hq
                    have er : r_208 = .int (-10) := er.trans (congrArg Value.int (by rw [hC_208]; decide))
                    subst er
                    refine lv_bipush (v := (-10)) hx hb dL_isDisputed_198 (by decide) ?_
                    refine lv_icmp_ne (tgt := 234) hx hb dL_isDisputed_200 (by decide) (fun z => absurd z (by decide)) (fun _ => ?_)
                    refine lv_aload_n hx hb dL_isDisputed_203 rfl (lv_at hl 4 rfl) ?_
                    refine lv_bipush (v := 8) hx hb dL_isDisputed_204 (by decide) ?_
                    refine lv_iload hx hb dL_isDisputed_206 (lv_at hl 9 rfl) ?_
                    refine lv_iload hx hb dL_isDisputed_208 (lv_at hl 10 rfl) ?_
                    refine lv_iconst (v := 0) hx hb dL_isDisputed_210 (by decide) ?_
                    refine lv_iconst (v := 0) hx hb dL_isDisputed_211 (by decide) ?_
                    have hix_212 : ix p5 = k := by rw [e5]; exact ix_nI (by omega)
                    have hix_213 : ix p6 = j := by rw [e6]; exact ix_nI (by omega)
                    have hC_211 : rdC n p5 p6 (dsB (rr (ix p5)) (ix p6)) = 2 := by rw [hix_212, hix_213]; exact rdC_no (okN_of e5 (by omega) (by omega)) (okN_of (n := 10) e6 (by omega) (by omega)) hcan
                    refine wq_call0 (vx_runSX (As := [.ref ox, .int 8, .int p5, .int p6, .int 0, .int (bI false)]) (rest := []) ⟨hx, hb, hml, hown, hts⟩ (m_L_does_dispute l hnt (fa := fa_200) hq (p5) (p6) (0) (false)) (vx_cwSW 6 hts gL_isDisputed_L_does rfl rfl rfl (by decide +kernel) ⟨Nat.le_of_ble_eq_true rfl, Nat.le_of_ble_eq_true rfl⟩) (wq_pre0 hK hE hZ hN hw hA) rfl rfl hl.1 rfl (lv_room (Nat.le_of_ble_eq_true rfl)) dL_isDisputed_212 ⟨(show 0 + 4 + 3 ≤ 8 by omega), (show 0 + 24 + 18 ≤ 48 by omega)⟩) hw hA (fun r_211 L_211 f_211 fx_211 H locs hp hw => ?_)
                    obtain ⟨er, hq⟩ := wd_er hp (by rw [hC_211]; decide) hq
                    have er : r_211 = .int (-10) := er.trans (congrArg Value.int (by rw [hC_211]; decide))
                    subst er
                    refine lv_iload hx hb dL_isDisputed_215 (lv_at hl 0 rfl) ?_
                    refine lv_if_eq (tgt := 225) hx hb dL_isDisputed_217 (by decide) (fun c_214 => ?_) (fun c_214 => ?_)
                    · have bc_214 : (!dsB (rr k) j) = false := bI_0 (hy_186.symm.trans c_214)
                      refine lv_bipush (v := (-10)) hx hb dL_isDisputed_225 (by decide) ?_
                      refine lv_icmp_ne (tgt := 234) hx hb dL_isDisputed_227 (by decide) (fun z => absurd z (by decide)) (fun _ => ?_)
                      refine lv_iconst (v := 1) hx hb dL_isDisputed_230 (by decide) ?_
                      refine lv_goto (tgt := 235) hx hb dL_isDisputed_231 (by decide) ?_
                      exact wq_zret (b := true) rfl hx hb hr hlocks dL_isDisputed_235 hw (show 0 + 4 + 3 ≤ 8 by omega) (show 0 + 24 + 18 ≤ 48 by omega) ⟨rfl, ra, ar, n, km, mn, wk, po, rr, d, v, o_193, fr, g_203, hq, ⟨hc_204, hc_205, hc_206, hc_207, hc_201, hne⟩, hJ.up, (by rw [or_z o (k := k) (ho_193.trans (by rw [ex_189])), add_z g (k := 4) (hg_203.trans (by rw [ex_199]))]; exact hB)⟩
                    · have bc_214 : (!dsB (rr k) j) = true := bI_1 (fun z => c_214 (hy_186.trans z))
                      exact absurd (bc_198.symm.trans bc_214) (by decide)
                  · have bc_198 : (!dsB (rr k) j) = true := bI_1 (fun z => c_198 (hy_186.trans z))
                    exact absurd (bc_188.symm.trans bc_198) (by decide)
                · have bc_188 : (!dsB (rr k) j) = true := bI_1 (fun z => c_188 (hy_186.trans z))
                  have hcan : dsB (rr k) j = false := by simpa using bc_188
                  refine lv_iconst (v := 1) hx hb dL_isDisputed_158 (by decide) ?_
                  refine lv_iload hx hb dL_isDisputed_159 (lv_at hl 10 rfl) ?_
                  refine lv_ishl hx hb dL_isDisputed_161 ?_
                  refine lv_topi (fun x_215 ex_215 => ?_)
                  refine lv_goto (tgt := 166) hx hb dL_isDisputed_162 (by decide) ?_
                  refine lv_ior hx hb dL_isDisputed_166 ?_
                  refine lv_topi (fun x_216 ex_216 => ?_)
                  refine wq_iast hx hb hK hw hR.2.2.1 (k) e5 (by omega) (by omega) dL_isDisputed_167 (fun H locs fa_217 hc_218 hn_219 hw => ?_)
                  obtain ⟨o_220, ho_220⟩ : ∃ y, y = upd o (k) (x_216) := ⟨_, rfl⟩
                  rw [← ho_220] at hc_218
                  have hc_221 := wy_c.ne2 hR.1 hn_219 hne.2.1
                  have hc_222 := wy_c.ne2 hR.2.1 hn_219 hne.2.2.2.2.1
                  have hc_223 := wy_c.ne2 hR.2.2.2.1 hn_219 (Ne.symm hne.2.2.2.2.2.2.2.1)
                  have hc_224 := wy_c.ne2 hR.2.2.2.2.1 hn_219 (Ne.symm hne.2.2.2.2.2.2.2.2.1)
                  refine lv_aload hx hb dL_isDisputed_168 (lv_at hl 8 rfl) ?_
                  refine lv_iconst (v := 4) hx hb dL_isDisputed_170 (by decide) ?_
                  refine lv_dup2_11 hx hb dL_isDisputed_171 rfl rfl ?_
                  refine wy_iald hx hb hK hw.2.1.1 hc_224 (4) (rfl : (4 : Int32) = nI 4) (by omega) (by omega) dL_isDisputed_172 ?_
                  refine lv_iload hx hb dL_isDisputed_173 (lv_at hl 0 rfl) ?_
                  refine lv_if_eq (tgt := 182) hx hb dL_isDisputed_175 (by decide) (fun c_225 => ?_) (fun c_225 => ?_)
                  · have bc_225 : (!dsB (rr k) j) = false := bI_0 (hy_186.symm.trans c_225)
                    exact absurd (bc_188.symm.trans bc_225) (by decide)
                  · have bc_225 : (!dsB (rr k) j) = true := bI_1 (fun z => c_225 (hy_186.trans z))
                    refine lv_iconst (v := 1) hx hb dL_isDisputed_178 (by decide) ?_
                    refine lv_goto (tgt := 183) hx hb dL_isDisputed_179 (by decide) ?_
                    refine lv_iadd hx hb dL_isDisputed_183 ?_
                    refine lv_topi (fun x_226 ex_226 => ?_)
                    refine wq_iast hx hb hK hw hc_224 (4) (rfl : (4 : Int32) = nI 4) (by omega) (by omega) dL_isDisputed_184 (fun H locs fa_227 hc_228 hn_229 hw => ?_)
                    obtain ⟨g_230, hg_230⟩ : ∃ y, y = upd g (4) (x_226) := ⟨_, rfl⟩
                    rw [← hg_230] at hc_228
                    have hc_231 := wy_c.ne2 hc_221 hn_229 hne.2.2.2.1
                    have hc_232 := wy_c.ne2 hc_222 hn_229 hne.2.2.2.2.2.2.1
                    have hc_233 := wy_c.ne2 hc_218 hn_229 hne.2.2.2.2.2.2.2.2.1
                    have hc_234 := wy_c.ne2 hc_223 hn_229 hne.2.2.2.2.2.2.2.2.2
                    refine lv_aload_n hx hb dL_isDisputed_185 rfl (lv_at hl 4 rfl) ?_
                    refine lv_bipush (v := 9) hx hb dL_isDisputed_186 (by decide) ?_
                    refine lv_iload hx hb dL_isDisputed_188 (lv_at hl 9 rfl) ?_
                    refine lv_iload hx hb dL_isDisputed_190 (lv_at hl 10 rfl) ?_
                    refine lv_bipush (v := 50) hx hb dL_isDisputed_192 (by decide) ?_
                    refine lv_iconst (v := 0) hx hb dL_isDisputed_194 (by decide) ?_
                    have hix_236 : ix p5 = k := by rw [e5]; exact ix_nI (by omega)
                    have hix_237 : ix p6 = j := by rw [e6]; exact ix_nI (by omega)
                    have hC_235 : slC n p5 p6 50 (!rdp (rr (ix p5)) (ix p6) || rse (rr (ix p5)) (ix p6)) = 3 := by rw [hix_236, hix_237]; exact slC_3 (okN_of e5 (by omega) (by omega)) (okN_of (n := 10) e6 (by omega) (by omega)) (rfl : (50 : Int32) = nI 50) (by decide) (by simp [bc_76])
                    refine wq_call0 (vx_runSX (As := [.ref ox, .int 9, .int p5, .int p6, .int 50, .int (bI false)]) (rest := []) ⟨hx, hb, hml, hown, hts⟩ (m_L_does_settle l hnt (fa := fa_227) hq (p5) (p6) (50) (false)) (vx_cwSW 6 hts gL_isDisputed_L_does rfl rfl rfl (by decide +kernel) ⟨Nat.le_of_ble_eq_true rfl, Nat.le_of_ble_eq_true rfl⟩) (wq_pre0 hK hE hZ hN hw hA) rfl rfl hl.1 rfl (lv_room (Nat.le_of_ble_eq_true rfl)) dL_isDisputed_195 ⟨(show 0 + 4 ≤ 8 by omega), (show 0 + 24 ≤ 48 by omega)⟩) hw hA (fun r_235 L_235 f_235 fx_235 H locs hp hw => ?_)
                    obtain ⟨er, hq⟩ := wd_er hp (by rw [hC_235]; decide) hq
                    have er : r_235 = .int (-10) := er.trans (congrArg Value.int (by rw [hC_235]; decide))
                    subst er
                    refine lv_bipush (v := (-10)) hx hb dL_isDisputed_198 (by decide) ?_
                    refine lv_icmp_ne (tgt := 234) hx hb dL_isDisputed_200 (by decide) (fun z => absurd z (by decide)) (fun _ => ?_)
                    refine lv_aload_n hx hb dL_isDisputed_203 rfl (lv_at hl 4 rfl) ?_
                    refine lv_bipush (v := 8) hx hb dL_isDisputed_204 (by decide) ?_
                    refine lv_iload hx hb dL_isDisputed_206 (lv_at hl 9 rfl) ?_
                    refine lv_iload hx hb dL_isDisputed_208 (lv_at hl 10 rfl) ?_
                    refine lv_iconst (v := 0) hx hb dL_isDisputed_210 (by decide) ?_
                    refine lv_iconst (v := 0) hx hb dL_isDisputed_211 (by decide) ?_
                    have hix_239 : ix p5 = k := by rw [e5]; exact ix_nI (by omega)
                    have hix_240 : ix p6 = j := by rw [e6]; exact ix_nI (by omega)
                    have hC_238 : rdC n p5 p6 (dsB (rr (ix p5)) (ix p6)) = 0 := by rw [hix_239, hix_240]; exact rdC_ok (okN_of e5 (by omega) (by omega)) (okN_of (n := 10) e6 (by omega) (by omega)) hcan
                    refine wq_call0 (vx_runSX (As := [.ref ox, .int 8, .int p5, .int p6, .int 0, .int (bI false)]) (rest := []) ⟨hx, hb, hml, hown, hts⟩ (m_L_does_dispute l hnt (fa := fa_227) hq (p5) (p6) (0) (false)) (vx_cwSW 6 hts gL_isDisputed_L_does rfl rfl rfl (by decide +kernel) ⟨Nat.le_of_ble_eq_true rfl, Nat.le_of_ble_eq_true rfl⟩) (wq_pre0 hK hE hZ hN hw hA) rfl rfl hl.1 rfl (lv_room (Nat.le_of_ble_eq_true rfl)) dL_isDisputed_212 ⟨(show 0 + 4 + 3 ≤ 8 by omega), (show 0 + 24 + 18 ≤ 48 by omega)⟩) hw hA (fun r_238 L_238 f_238 fx_238 H locs hp hw => ?_)
                    obtain ⟨er, ra, ar, hq⟩ := wd_ok hp hC_238
                    simp only [hix_239, hix_240] at er hq
                    subst er
                    obtain ⟨rr_241, hrr_241⟩ : ∃ y : Nat → wr_V, y = va_up rr (k) (vDis (rr (k)) (j)) := ⟨_, rfl⟩
                    rw [← hrr_241] at hq
                    refine lv_iload hx hb dL_isDisputed_215 (lv_at hl 0 rfl) ?_
                    refine lv_if_eq (tgt := 225) hx hb dL_isDisputed_217 (by decide) (fun c_242 => ?_) (fun c_242 => ?_)
                    · have bc_242 : (!dsB (rr k) j) = false := bI_0 (hy_186.symm.trans c_242)
                      exact absurd (bc_225.symm.trans bc_242) (by decide)
                    · have bc_242 : (!dsB (rr k) j) = true := bI_1 (fun z => c_242 (hy_186.trans z))
                      refine lv_iload hx hb dL_isDisputed_220 (lv_at hl 3 rfl) ?_
                      refine lv_goto (tgt := 227) hx hb dL_isDisputed_222 (by decide) ?_
                      refine lv_icmp_ne (tgt := 234) hx hb dL_isDisputed_227 (by decide) (fun z => absurd ((rfl : rch (rr (k)) (j) = rch (rr k) j)) z) (fun _ => ?_)
                      refine lv_iconst (v := 1) hx hb dL_isDisputed_230 (by decide) ?_
                      refine lv_goto (tgt := 235) hx hb dL_isDisputed_231 (by decide) ?_
                      exact wq_zret (b := true) rfl hx hb hr hlocks dL_isDisputed_235 hw (show 0 + 4 + 3 ≤ 8 by omega) (show 0 + 24 + 18 ≤ 48 by omega) ⟨rfl, ra, ar, n, km, mn, wk, po, rr_241, d, v, o_220, fr, g_230, hq, ⟨hc_231, hc_232, hc_233, hc_234, hc_228, hne⟩, (by rw [hrr_241]; exact J_dis hJ ht (by omega) (by omega) hcan), (by rw [hrr_241]; exact B_dis hB hJ (by omega) hn20 (by omega) hcan e6 (ho_220.trans (by rw [ex_216, ex_215])) (hg_230.trans (by rw [ex_226])))⟩
              refine lv_aload_n hx hb dL_isDisputed_120 rfl (lv_at hl 4 rfl) ?_
              refine lv_bipush (v := 20) hx hb dL_isDisputed_121 (by decide) ?_
              refine lv_iload hx hb dL_isDisputed_123 (lv_at hl 8 rfl) ?_
              refine lv_iadd hx hb dL_isDisputed_125 ?_
              refine lv_topi (fun x_243 ex_243 => ?_)
              have nx_243 : x_243 = nI (20 + k) := ex_243.trans ((congr (congrArg (fun u v : Int32 => u + v) (rfl : (20 : Int32) = nI 20)) e5).trans (nI_add _ _))
              refine wy_iald hx hb hK hw.2.1.1 hR.1 (20 + k) nx_243 (by omega) (by omega) dL_isDisputed_126 ?_
              refine lv_iconst (v := 1) hx hb dL_isDisputed_127 (by decide) ?_
              refine lv_icmp_ne (tgt := 145) hx hb dL_isDisputed_128 (by decide) (fun c_244 => ?_) (fun c_244 => ?_)
              · have bc_244 : (rfi (rr k)) = false := bI_n1 (fun z => c_244 ((hB.2.1 (k) (by omega)).trans z))
                refine lv_iconst (v := 0) hx hb dL_isDisputed_145 (by decide) ?_
                exact JN_187 _ (by simp [dsB, bc_244, bI]) ls (lv_sub hl [0, 1, 2, 3, 4, 5, 6, 7, 8, 9, 10, 11] rfl)
              · have bc_244 : (rfi (rr k)) = true := bI_e1 ((hB.2.1 (k) (by omega)).symm.trans c_244)
                refine lv_iload hx hb dL_isDisputed_131 (lv_at hl 2 rfl) ?_
                refine lv_if_le (tgt := 145) hx hb dL_isDisputed_133 (by decide) (fun c_245 => ?_) (fun c_245 => ?_)
                · refine lv_iconst (v := 0) hx hb dL_isDisputed_145 (by decide) ?_
                  exact JN_187 _ (by have hz := P_chz hJ ht (k := k) (r := j) (by omega) (by omega) c_245; simp [dsB, hz, bI]) ls (lv_sub hl [0, 1, 2, 3, 4, 5, 6, 7, 8, 9, 10, 11] rfl)
                · refine lv_iload hx hb dL_isDisputed_136 (lv_at hl 0 rfl) ?_
                  refine lv_if_ne (tgt := 145) hx hb dL_isDisputed_138 (by decide) (fun c_246 => ?_) (fun c_246 => ?_)
                  · have bc_246 : (rse (rr k) j) = true := bI_1 (fun z => c_246 (hy_12.trans z))
                    refine lv_iconst (v := 0) hx hb dL_isDisputed_145 (by decide) ?_
                    exact JN_187 _ (by simp [dsB, bc_14, bI]) ls (lv_sub hl [0, 1, 2, 3, 4, 5, 6, 7, 8, 9, 10, 11] rfl)
                  · have bc_246 : (rse (rr k) j) = false := bI_0 (hy_12.symm.trans c_246)
                    exact absurd (bc_76.symm.trans bc_246) (by decide)
        refine lv_aload_n hx hb dL_isDisputed_87 rfl (lv_at hl 4 rfl) ?_
        refine lv_iload hx hb dL_isDisputed_88 (lv_at hl 7 rfl) ?_
        refine wy_iald hx hb hK hw.2.1.1 hR.2.2.1 (k) e5 (by omega) (by omega) dL_isDisputed_90 ?_
        refine lv_iload hx hb dL_isDisputed_91 (lv_at hl 8 rfl) ?_
        refine lv_bipush (v := 10) hx hb dL_isDisputed_93 (by decide) ?_
        refine lv_iadd hx hb dL_isDisputed_95 ?_
        refine lv_topi (fun x_247 ex_247 => ?_)
        have nx_247 : x_247 = nI (j + 10) := ex_247.trans ((congr (congrArg (fun u v : Int32 => u + v) e6) (rfl : (10 : Int32) = nI 10)).trans (nI_add _ _))
        refine lv_ishr hx hb dL_isDisputed_96 ?_
        refine lv_topi (fun x_248 ex_248 => ?_)
        refine lv_iconst (v := 1) hx hb dL_isDisputed_97 (by decide) ?_
        refine lv_iand hx hb dL_isDisputed_98 ?_
        refine lv_topi (fun x_249 ex_249 => ?_)
        have hbt_250 : x_249 = bI (rse (rr k) j) := by rw [ex_249, ex_248, nx_247, hB.2.2.2.2.1 k (by omega)]; exact P_o2 _ (by omega)
        refine lv_iconst (v := 1) hx hb dL_isDisputed_99 (by decide) ?_
        refine lv_icmp_ne (tgt := 107) hx hb dL_isDisputed_100 (by decide) (fun c_251 => ?_) (fun c_251 => ?_)
        · have bc_251 : (rse (rr k) j) = false := bI_n1 (fun z => c_251 (hbt_250.trans z))
          refine lv_iconst (v := 0) hx hb dL_isDisputed_107 (by decide) ?_
          exact JN_13 _ (by rw [bc_251]; rfl) ls (lv_sub hl [0, 1, 2, 3, 4, 5, 6, 7, 8, 9, 10] rfl)
        · have bc_251 : (rse (rr k) j) = true := bI_e1 (hbt_250.symm.trans c_251)
          refine lv_iconst (v := 1) hx hb dL_isDisputed_103 (by decide) ?_
          refine lv_goto (tgt := 108) hx hb dL_isDisputed_104 (by decide) ?_
          exact JN_13 _ (by rw [bc_251]; rfl) ls (lv_sub hl [0, 1, 2, 3, 4, 5, 6, 7, 8, 9, 10] rfl)
      refine lv_aload_n hx hb dL_isDisputed_67 rfl (lv_at hl 3 rfl) ?_
      refine lv_iload hx hb dL_isDisputed_68 (lv_at hl 6 rfl) ?_
      refine wy_iald hx hb hK hw.2.1.1 hR.2.2.1 (k) e5 (by omega) (by omega) dL_isDisputed_70 ?_
      refine lv_iload hx hb dL_isDisputed_71 (lv_at hl 7 rfl) ?_
      refine lv_ishr hx hb dL_isDisputed_73 ?_
      refine lv_topi (fun x_252 ex_252 => ?_)
      refine lv_iconst (v := 1) hx hb dL_isDisputed_74 (by decide) ?_
      refine lv_iand hx hb dL_isDisputed_75 ?_
      refine lv_topi (fun x_253 ex_253 => ?_)
      have hbt_254 : x_253 = bI (rdp (rr k) j) := by rw [ex_253, ex_252, e6, hB.2.2.2.2.1 k (by omega)]; exact P_o1 _ (by omega)
      refine lv_iconst (v := 1) hx hb dL_isDisputed_76 (by decide) ?_
      refine lv_icmp_ne (tgt := 84) hx hb dL_isDisputed_77 (by decide) (fun c_255 => ?_) (fun c_255 => ?_)
      · have bc_255 : (rdp (rr k) j) = false := bI_n1 (fun z => c_255 (hbt_254.trans z))
        refine lv_iconst (v := 0) hx hb dL_isDisputed_84 (by decide) ?_
        exact JN_11 _ (by rw [bc_255]; rfl) ls (lv_sub hl [0, 1, 2, 3, 4, 5, 6, 7, 8, 9] rfl)
      · have bc_255 : (rdp (rr k) j) = true := bI_e1 (hbt_254.symm.trans c_255)
        refine lv_iconst (v := 1) hx hb dL_isDisputed_80 (by decide) ?_
        refine lv_goto (tgt := 85) hx hb dL_isDisputed_81 (by decide) ?_
        exact JN_11 _ (by rw [bc_255]; rfl) ls (lv_sub hl [0, 1, 2, 3, 4, 5, 6, 7, 8, 9] rfl)
    · have nc_8 : ¬ (j ≤ 9) := fun z => c_8 ((wy_le e6 (rfl : (9 : Int32) = nI 9) (by omega) (by decide)).mpr z)
      refine lv_aload_n hx hb dL_isDisputed_16 rfl (lv_at hl 0 rfl) ?_
      refine lv_bipush (v := 8) hx hb dL_isDisputed_17 (by decide) ?_
      refine lv_iload hx hb dL_isDisputed_19 (lv_at hl 5 rfl) ?_
      refine lv_iload hx hb dL_isDisputed_21 (lv_at hl 6 rfl) ?_
      refine lv_iconst (v := 0) hx hb dL_isDisputed_23 (by decide) ?_
      refine lv_iconst (v := 0) hx hb dL_isDisputed_24 (by decide) ?_
      have hix_257 : ix p5 = k := by rw [e5]; exact ix_nI (by omega)
      have hix_258 : ix p6 = j := by rw [e6]; exact ix_nI (by omega)
      have hC_256 : rdC n p5 p6 (dsB (rr (ix p5)) (ix p6)) = 1 := by exact rdC_o2 (by rw [e6]; exact okN_out (n := 10) (by omega) (by omega))
      refine wq_call0 (vx_runSX (As := [.ref ox, .int 8, .int p5, .int p6, .int 0, .int (bI false)]) (rest := []) ⟨hx, hb, hml, hown, hts⟩ (m_L_does_dispute l hnt (fa := fa) hq (p5) (p6) (0) (false)) (vx_cwSW 6 hts gL_isDisputed_L_does rfl rfl rfl (by decide +kernel) ⟨Nat.le_of_ble_eq_true rfl, Nat.le_of_ble_eq_true rfl⟩) (wq_pre0 hK hE hZ hN hw hA) rfl rfl hl.1 rfl (lv_room (Nat.le_of_ble_eq_true rfl)) dL_isDisputed_25 ⟨(show 0 + 3 ≤ 8 by omega), (show 0 + 18 ≤ 48 by omega)⟩) hw hA (fun r_256 L_256 f_256 fx_256 H locs hp hw => ?_)
      obtain ⟨er, hq⟩ := wd_er hp (by rw [hC_256]; decide) hq
      have er : r_256 = .int (-30) := er.trans (congrArg Value.int (by rw [hC_256]; decide))
      subst er
      refine lv_bipush (v := (-30)) hx hb dL_isDisputed_28 (by decide) ?_
      refine lv_icmp_ne (tgt := 55) hx hb dL_isDisputed_30 (by decide) (fun z => absurd z (by decide)) (fun _ => ?_)
      refine lv_aload_n hx hb dL_isDisputed_33 rfl (lv_at hl 0 rfl) ?_
      refine lv_bipush (v := 9) hx hb dL_isDisputed_34 (by decide) ?_
      refine lv_iload hx hb dL_isDisputed_36 (lv_at hl 5 rfl) ?_
      refine lv_iload hx hb dL_isDisputed_38 (lv_at hl 6 rfl) ?_
      refine lv_bipush (v := 101) hx hb dL_isDisputed_40 (by decide) ?_
      refine lv_iconst (v := 0) hx hb dL_isDisputed_42 (by decide) ?_
      have hix_260 : ix p5 = k := by rw [e5]; exact ix_nI (by omega)
      have hix_261 : ix p6 = j := by rw [e6]; exact ix_nI (by omega)
      have hC_259 : slC n p5 p6 101 (!rdp (rr (ix p5)) (ix p6) || rse (rr (ix p5)) (ix p6)) = 1 := by exact slC_1b (by rw [e6]; exact okN_out (n := 10) (by omega) (by omega))
      refine wq_call0 (vx_runSX (As := [.ref ox, .int 9, .int p5, .int p6, .int 101, .int (bI false)]) (rest := []) ⟨hx, hb, hml, hown, hts⟩ (m_L_does_settle l hnt (fa := fa) hq (p5) (p6) (101) (false)) (vx_cwSW 6 hts gL_isDisputed_L_does rfl rfl rfl (by decide +kernel) ⟨Nat.le_of_ble_eq_true rfl, Nat.le_of_ble_eq_true rfl⟩) (wq_pre0 hK hE hZ hN hw hA) rfl rfl hl.1 rfl (lv_room (Nat.le_of_ble_eq_true rfl)) dL_isDisputed_43 ⟨(show 0 + 3 + 4 ≤ 8 by omega), (show 0 + 18 + 24 ≤ 48 by omega)⟩) hw hA (fun r_259 L_259 f_259 fx_259 H locs hp hw => ?_)
      obtain ⟨er, hq⟩ := wd_er hp (by rw [hC_259]; decide) hq
      have er : r_259 = .int (-30) := er.trans (congrArg Value.int (by rw [hC_259]; decide))
      subst er
      refine lv_bipush (v := (-30)) hx hb dL_isDisputed_46 (by decide) ?_
      refine lv_icmp_ne (tgt := 55) hx hb dL_isDisputed_48 (by decide) (fun z => absurd z (by decide)) (fun _ => ?_)
      refine lv_iconst (v := 1) hx hb dL_isDisputed_51 (by decide) ?_
      refine lv_goto (tgt := 56) hx hb dL_isDisputed_52 (by decide) ?_
      exact wq_zret (b := true) rfl hx hb hr hlocks dL_isDisputed_56 hw (show 0 + 3 + 4 ≤ 8 by omega) (show 0 + 18 + 24 ≤ 48 by omega) ⟨rfl, ra, ar, n, km, mn, wk, po, rr, d, v, o, fr, g, hq, ⟨hR.1, hR.2.1, hR.2.2.1, hR.2.2.2.1, hR.2.2.2.2.1, hne⟩, hJ.up, hB⟩
