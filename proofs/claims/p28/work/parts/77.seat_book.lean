set_option maxHeartbeats 4000000 in
set_option maxRecDepth 100000 in
theorem m_L_isSeat_book (l : Launch) (hnt : l.stackTraces = false) {G : wy_G} {L0 La : List Nat} {f0 fa : Nat → va_E} {sz : Nat} {ox lo : Nat} {ra ar : Nat → Nat} {t n : Nat} {km mn : Int32} {wk : Nat} {po : Nat → Int32} {rr : Nat → wr_V} {ad av ao af ag : Nat} {d v o fr g : Nat → Int32} (hq : wx_S G L0 f0 ox lo ra ar n km mn wk po rr) (hR : wR G La fa ad av ao af ag d v o fr g) (hJ : wJ t n km mn wk po rr) (hB : wB n km mn wk rr d v o fr g) (ht : t ≤ 80) (p5 p6 : Int32) (k j : Nat) (hk : k ≤ n) (hj : j ≤ 10) (e5 : p5 = nI k) (e6 : p6 = nI j) : Met l yL_isSeat wsL_isSeat ({ frames := 10, cells := 4, slots := 24, locals := 175 } : Room) (va_Pc [.ref ox, .ref ad, .ref av, .ref ag, .int 2, .int p5, .int p6] (wq_P G L0 f0 La fa sz)) (wq_Q G L0 La sz (fun r1 L1 f1 fa1 => r1 = .int (bI true) ∧ wZ G ox lo ad av ao af ag La (t + 1) L1 f1 fa1)) 4 24 (wy_A (L0 ++ La) sz) := by
  refine Met.ofW (cc := cL_isSeat) (maxL := 15) (ret := (some .boolean)) (by decide) rfl ?_
  intro p e s m args below meth c s₁ B hml hv
  obtain ⟨rfl, hP⟩ := hv
  obtain ⟨hw, hK, hA⟩ := wq_start hP
  obtain ⟨hv, -, -, hE, hZ, hN⟩ := hP
  have hsz := hv.1
  subst hsz
  have hx := B.exec
  have hb := B.bytes
  have hr := B.returns
  have hts := atoms_spec (ws := wsL_isSeat) B.pre
  have hown : s.vm.findClass RL = some m.cls := findClass_of_methodNamed B.named
  have hlocks := B.notSynchronized
  have hn20 : n ≤ 20 := hJ.2.1
  have hwk20 : wk ≤ 20 := hJ.2.2.1
  have hne := hR.2.2.2.2.2
  have hl := lv_entry ([.ref ox, .ref ad, .ref av, .ref ag, .int 2, .int p5, .int p6]) (n := 15) (Nat.le_of_ble_eq_true rfl)
  rw [lg_entry_eq]
  generalize (lg_sl ([.ref ox, .ref ad, .ref av, .ref ag, .int 2, .int p5, .int p6]) ++ List.replicate (15 - (lg_sl ([.ref ox, .ref ad, .ref av, .ref ag, .int 2, .int p5, .int p6])).length) Slot.unset).toArray = ls at hl ⊢
  have hl : lv_has ls 15 [(0, .ref ox), (1, .ref ad), (2, .ref av), (3, .ref ag), (4, .int 2), (5, .int p5), (6, .int p6)] := hl
  refine lv_iload hx hb dL_isSeat_0 (lv_at hl 5 rfl) ?_
  refine lv_aload_n hx hb dL_isSeat_2 rfl (lv_at hl 3 rfl) ?_
  refine lv_iconst (v := 0) hx hb dL_isSeat_3 (by decide) ?_
  refine wy_iald hx hb hK hw.2.1.1 hR.2.2.2.2.1 (0) (rfl : (0 : Int32) = nI 0) (by omega) (by omega) dL_isSeat_4 ?_
  refine lv_icmp_ge (tgt := 15) hx hb dL_isSeat_5 (by decide) (fun c_1 => ?_) (fun c_1 => ?_)
  · have nc_1 : n ≤ k := (wy_ge e5 hB.2.2.2.2.2.2.1 (by omega) (by omega)).mp c_1
    refine lv_aload_n hx hb dL_isSeat_15 rfl (lv_at hl 0 rfl) ?_
    refine lv_iload hx hb dL_isSeat_16 (lv_at hl 4 rfl) ?_
    refine lv_iload hx hb dL_isSeat_18 (lv_at hl 5 rfl) ?_
    refine lv_iload hx hb dL_isSeat_20 (lv_at hl 6 rfl) ?_
    refine lv_iconst (v := 0) hx hb dL_isSeat_22 (by decide) ?_
    refine lv_iconst (v := 0) hx hb dL_isSeat_23 (by decide) ?_
    have hix_3 : ix p5 = k := by rw [e5]; exact ix_nI (by omega)
    have hix_4 : ix p6 = j := by rw [e6]; exact ix_nI (by omega)
    have hC_2 : rdC n p5 p6 (bkB (rr (ix p5)) (ix p6)) = 1 := by exact rdC_o1 (by rw [e5]; exact okN_out (by omega) (by omega))
    refine wq_call0 (vx_runSX (As := [.ref ox, .int 2, .int p5, .int p6, .int 0, .int (bI false)]) (rest := []) ⟨hx, hb, hml, hown, hts⟩ (m_L_does_book l hnt (fa := fa) hq (p5) (p6) (0) (false)) (vx_cwSW 6 hts gL_isSeat_L_does rfl rfl rfl (by decide +kernel) ⟨Nat.le_of_ble_eq_true rfl, Nat.le_of_ble_eq_true rfl⟩) (wq_pre0 hK hE hZ hN hw hA) rfl rfl hl.1 rfl (lv_room (Nat.le_of_ble_eq_true rfl)) dL_isSeat_24 ⟨(show 0 + 4 ≤ 4 by omega), (show 0 + 24 ≤ 24 by omega)⟩) hw hA (fun r_2 L_2 f_2 fx_2 H locs hp hw => ?_)
    obtain ⟨er, hq⟩ := wd_er hp (by rw [hC_2]; decide) hq
    have er : r_2 = .int (-30) := er.trans (congrArg Value.int (by rw [hC_2]; decide))
    subst er
    refine lv_bipush (v := (-30)) hx hb dL_isSeat_27 (by decide) ?_
    refine lv_icmp_ne (tgt := 36) hx hb dL_isSeat_29 (by decide) (fun z => absurd z (by decide)) (fun _ => ?_)
    refine lv_iconst (v := 1) hx hb dL_isSeat_32 (by decide) ?_
    refine lv_goto (tgt := 37) hx hb dL_isSeat_33 (by decide) ?_
    exact wq_zret (b := true) rfl hx hb hr hlocks dL_isSeat_37 hw (show 0 + 4 ≤ 4 by omega) (show 0 + 24 ≤ 24 by omega) ⟨rfl, ra, ar, n, km, mn, wk, po, rr, d, v, o, fr, g, hq, ⟨hR.1, hR.2.1, hR.2.2.1, hR.2.2.2.1, hR.2.2.2.2.1, hne⟩, hJ.up, hB⟩
  · have nc_1 : ¬ (n ≤ k) := fun z => c_1 ((wy_ge e5 hB.2.2.2.2.2.2.1 (by omega) (by omega)).mpr z)
    refine lv_iload hx hb dL_isSeat_8 (lv_at hl 6 rfl) ?_
    refine lv_bipush (v := 9) hx hb dL_isSeat_10 (by decide) ?_
    refine lv_icmp_le (tgt := 38) hx hb dL_isSeat_12 (by decide) (fun c_5 => ?_) (fun c_5 => ?_)
    · have nc_5 : j ≤ 9 := (wy_le e6 (rfl : (9 : Int32) = nI 9) (by omega) (by decide)).mp c_5
      refine lv_aload_n hx hb dL_isSeat_38 rfl (lv_at hl 0 rfl) ?_
      refine lv_iload hx hb dL_isSeat_39 (lv_at hl 5 rfl) ?_
      refine vp_callSi (W.runV (As := [.int p5]) (rest := []) ⟨hx, hb, hml, hown, hts⟩ (r_X1_aboard l hq (p5) (k) (by omega) e5) (cwV 1 hts gL_isSeat_X1_aboard rfl rfl rfl (by decide +kernel) ⟨Nat.le_of_ble_eq_true rfl, Nat.le_of_ble_eq_true rfl⟩) (wy_pVR hK hw.1.1 hq.1 rfl) rfl rfl hl.1 rfl (lv_room (Nat.le_of_ble_eq_true rfl)) dL_isSeat_41 ⟨(show 0 + 0 ≤ 4 by omega), (show 0 + 0 ≤ 24 by omega)⟩) (fun r_6 er_6 => ?_)
      subst er_6
      refine lv_istore (lv' := [(7, .int (mks (rsd (rr k)))), (0, .ref ox), (1, .ref ad), (2, .ref av), (3, .ref ag), (4, .int 2), (5, .int p5), (6, .int p6)]) hx hb dL_isSeat_44 hl (by decide) rfl (fun ls hl => ?_)
      have JN_8 : ∀ (y_7 : Int32), y_7 = bI (rsd (rr k) j) → ∀ ls : Array Slot, lv_has ls 15 [(7, .int (mks (rsd (rr k)))), (0, .ref ox), (1, .ref ad), (2, .ref av), (3, .ref ag), (4, .int 2), (5, .int p5), (6, .int p6)] → W p l e (headSpec wsL_isSeat ({ frames := 10, cells := 4, slots := 24, locals := 175 } : Room)).room s m ([.ref ox, .ref ad, .ref av, .ref ag, .int 2, .int p5, .int p6] : List Value).toArray below meth c s.heap [] (0) (0) (MQ below (wq_Q G L0 La s.heap.size (fun r1 L1 f1 fa1 => r1 = .int (bI true) ∧ wZ G ox lo ad av ao af ag La (t + 1) L1 f1 fa1)) ([.ref ox, .ref ad, .ref av, .ref ag, .int 2, .int p5, .int p6] : List Value).toArray s 4 24 (wy_A (L0 ++ La) s.heap.size)) (F0 m 62 ls [.int y_7]) := by
        intro y_7 hy_7 ls hl
        refine lv_istore (lv' := [(8, .int y_7), (7, .int (mks (rsd (rr k)))), (0, .ref ox), (1, .ref ad), (2, .ref av), (3, .ref ag), (4, .int 2), (5, .int p5), (6, .int p6)]) hx hb dL_isSeat_62 hl (by decide) rfl (fun ls hl => ?_)
        have JN_10 : ∀ (y_9 : Int32), y_9 = bI (bkv (rr k) j) → ∀ ls : Array Slot, lv_has ls 15 [(8, .int y_7), (7, .int (mks (rsd (rr k)))), (0, .ref ox), (1, .ref ad), (2, .ref av), (3, .ref ag), (4, .int 2), (5, .int p5), (6, .int p6)] → W p l e (headSpec wsL_isSeat ({ frames := 10, cells := 4, slots := 24, locals := 175 } : Room)).room s m ([.ref ox, .ref ad, .ref av, .ref ag, .int 2, .int p5, .int p6] : List Value).toArray below meth c s.heap [] (0) (0) (MQ below (wq_Q G L0 La s.heap.size (fun r1 L1 f1 fa1 => r1 = .int (bI true) ∧ wZ G ox lo ad av ao af ag La (t + 1) L1 f1 fa1)) ([.ref ox, .ref ad, .ref av, .ref ag, .int 2, .int p5, .int p6] : List Value).toArray s 4 24 (wy_A (L0 ++ La) s.heap.size)) (F0 m 82 ls [.int y_9]) := by
          intro y_9 hy_9 ls hl
          refine lv_istore (lv' := [(9, .int y_9), (8, .int y_7), (7, .int (mks (rsd (rr k)))), (0, .ref ox), (1, .ref ad), (2, .ref av), (3, .ref ag), (4, .int 2), (5, .int p5), (6, .int p6)]) hx hb dL_isSeat_82 hl (by decide) rfl (fun ls hl => ?_)
          refine lv_iconst (v := 4) hx hb dL_isSeat_84 (by decide) ?_
          refine lv_iload hx hb dL_isSeat_85 (lv_at hl 2 rfl) ?_
          refine vp_callSi (W.runS (As := [.int (mks (rsd (rr k)))]) (rest := [.int 4]) ⟨hx, hb, hml, hown, hts⟩ (m_L_bits l (fun z9 => decide (z9 < 10) && rsd (rr k) z9) (mks (rsd (rr k))) (fun i hi => mks_bt _ (by omega))) (va_cwS 1 hts gL_isSeat_L_bits rfl rfl rfl (by decide +kernel) ⟨Nat.le_of_ble_eq_true rfl, Nat.le_of_ble_eq_true rfl⟩) wy_pSN rfl rfl hl.1 rfl (lv_room (Nat.le_of_ble_eq_true rfl)) dL_isSeat_87 ⟨(show 0 + 0 ≤ 4 by omega), (show 0 + 0 ≤ 24 by omega)⟩) (fun r_11 er_11 => ?_)
          subst er_11
          refine lv_isub hx hb dL_isSeat_90 ?_
          refine lv_topi (fun x_12 ex_12 => ?_)
          refine lv_aload_n hx hb dL_isSeat_91 rfl (lv_at hl 5 rfl) ?_
          refine lv_iload hx hb dL_isSeat_92 (lv_at hl 8 rfl) ?_
          refine wy_iald hx hb hK hw.2.1.1 hR.2.1 (k) e5 (by omega) (by omega) dL_isSeat_94 ?_
          refine vp_callSi (W.runS (As := [.int (v k)]) (rest := [.int x_12]) ⟨hx, hb, hml, hown, hts⟩ (m_L_bits l (fun z9 => decide (z9 < 10) && (!rfi (rr k) && rbk (rr k) z9)) (v k) (fun i hi => by rw [hB.vk (by omega)]; exact vmk_bt _ (by omega))) (va_cwS 1 hts gL_isSeat_L_bits rfl rfl rfl (by decide +kernel) ⟨Nat.le_of_ble_eq_true rfl, Nat.le_of_ble_eq_true rfl⟩) wy_pSN rfl rfl hl.1 rfl (lv_room (Nat.le_of_ble_eq_true rfl)) dL_isSeat_95 ⟨(show 0 + 0 ≤ 4 by omega), (show 0 + 0 ≤ 24 by omega)⟩) (fun r_13 er_13 => ?_)
          subst er_13
          refine lv_isub hx hb dL_isSeat_98 ?_
          refine lv_topi (fun x_14 ex_14 => ?_)
          refine lv_istore (lv' := [(10, .int x_14), (9, .int y_9), (8, .int y_7), (7, .int (mks (rsd (rr k)))), (0, .ref ox), (1, .ref ad), (2, .ref av), (3, .ref ag), (4, .int 2), (5, .int p5), (6, .int p6)]) hx hb dL_isSeat_99 hl (by decide) rfl (fun ls hl => ?_)
          have hfr : rfi (rr k) = false → x_14 = freeR (rr k) := fun z => (by rw [ex_14, ex_12]; exact P_free z)
          refine lv_aload_n hx hb dL_isSeat_101 rfl (lv_at hl 4 rfl) ?_
          refine lv_iload hx hb dL_isSeat_102 (lv_at hl 9 rfl) ?_
          refine lv_iload hx hb dL_isSeat_104 (lv_at hl 10 rfl) ?_
          refine vp_callSi (W.runV (As := [.int p5, .int p6]) (rest := []) ⟨hx, hb, hml, hown, hts⟩ (r_X1_charge l hq (p5) (p6) (k) (j) (by omega) (by omega) e5 e6) (cwV 2 hts gL_isSeat_X1_charge rfl rfl rfl (by decide +kernel) ⟨Nat.le_of_ble_eq_true rfl, Nat.le_of_ble_eq_true rfl⟩) (wy_pVR hK hw.1.1 hq.1 rfl) rfl rfl hl.1 rfl (lv_room (Nat.le_of_ble_eq_true rfl)) dL_isSeat_106 ⟨(show 0 + 0 ≤ 4 by omega), (show 0 + 0 ≤ 24 by omega)⟩) (fun r_15 er_15 => ?_)
          subst er_15
          refine lv_istore (lv' := [(11, .int (rch (rr k) j)), (10, .int x_14), (9, .int y_9), (8, .int y_7), (7, .int (mks (rsd (rr k)))), (0, .ref ox), (1, .ref ad), (2, .ref av), (3, .ref ag), (4, .int 2), (5, .int p5), (6, .int p6)]) hx hb dL_isSeat_109 hl (by decide) rfl (fun ls hl => ?_)
          have JN_17 : ∀ (y_16 : Int32), y_16 = bI (!bkB (rr k) j) → ∀ ls : Array Slot, lv_has ls 15 [(11, .int (rch (rr k) j)), (10, .int x_14), (9, .int y_9), (8, .int y_7), (7, .int (mks (rsd (rr k)))), (0, .ref ox), (1, .ref ad), (2, .ref av), (3, .ref ag), (4, .int 2), (5, .int p5), (6, .int p6)] → W p l e (headSpec wsL_isSeat ({ frames := 10, cells := 4, slots := 24, locals := 175 } : Room)).room s m ([.ref ox, .ref ad, .ref av, .ref ag, .int 2, .int p5, .int p6] : List Value).toArray below meth c s.heap [] (0) (0) (MQ below (wq_Q G L0 La s.heap.size (fun r1 L1 f1 fa1 => r1 = .int (bI true) ∧ wZ G ox lo ad av ao af ag La (t + 1) L1 f1 fa1)) ([.ref ox, .ref ad, .ref av, .ref ag, .int 2, .int p5, .int p6] : List Value).toArray s 4 24 (wy_A (L0 ++ La) s.heap.size)) (F0 m 193 ls [.int y_16]) := by
            intro y_16 hy_16 ls hl
            refine lv_istore (lv' := [(12, .int y_16), (11, .int (rch (rr k) j)), (10, .int x_14), (9, .int y_9), (8, .int y_7), (7, .int (mks (rsd (rr k)))), (0, .ref ox), (1, .ref ad), (2, .ref av), (3, .ref ag), (4, .int 2), (5, .int p5), (6, .int p6)]) hx hb dL_isSeat_193 hl (by decide) rfl (fun ls hl => ?_)
            refine lv_iload hx hb dL_isSeat_195 (lv_at hl 0 rfl) ?_
            refine lv_if_ne (tgt := 205) hx hb dL_isSeat_197 (by decide) (fun c_18 => ?_) (fun c_18 => ?_)
            · have bc_18 : (!bkB (rr k) j) = true := bI_1 (fun z => c_18 (hy_16.trans z))
              have hcan : bkB (rr k) j = false := by simpa using bc_18
              refine lv_iload hx hb dL_isSeat_205 (lv_at hl 10 rfl) ?_
              refine lv_iconst (v := 2) hx hb dL_isSeat_207 (by decide) ?_
              refine lv_icmp_ne (tgt := 218) hx hb dL_isSeat_208 (by decide) (fun z => absurd z (by decide)) (fun _ => ?_)
              refine lv_iload hx hb dL_isSeat_211 (lv_at hl 2 rfl) ?_
              refine lv_iconst (v := 1) hx hb dL_isSeat_213 (by decide) ?_
              refine lv_isub hx hb dL_isSeat_214 ?_
              refine lv_topi (fun x_19 ex_19 => ?_)
              refine lv_goto (tgt := 256) hx hb dL_isSeat_215 (by decide) ?_
              refine lv_istore (lv' := [(13, .int x_19), (12, .int y_16), (11, .int (rch (rr k) j)), (10, .int x_14), (9, .int y_9), (8, .int y_7), (7, .int (mks (rsd (rr k)))), (0, .ref ox), (1, .ref ad), (2, .ref av), (3, .ref ag), (4, .int 2), (5, .int p5), (6, .int p6)]) hx hb dL_isSeat_256 hl (by decide) rfl (fun ls hl => ?_)
              refine lv_aload_n hx hb dL_isSeat_258 rfl (lv_at hl 9 rfl) ?_
              refine lv_iload hx hb dL_isSeat_259 (lv_at hl 12 rfl) ?_
              refine lv_iload hx hb dL_isSeat_261 (lv_at hl 1 rfl) ?_
              refine lv_if_eq (tgt := 272) hx hb dL_isSeat_263 (by decide) (fun c_20 => ?_) (fun c_20 => ?_)
              · have bc_20 : (!bkB (rr k) j) = false := bI_0 (hy_16.symm.trans c_20)
                exact absurd (bc_18.symm.trans bc_20) (by decide)
              · have bc_20 : (!bkB (rr k) j) = true := bI_1 (fun z => c_20 (hy_16.trans z))
                refine lv_iload hx hb dL_isSeat_266 (lv_at hl 11 rfl) ?_
                refine lv_iconst (v := 5) hx hb dL_isSeat_268 (by decide) ?_
                refine lv_icmp_ne (tgt := 279) hx hb dL_isSeat_269 (by decide) (fun _ => ?_) (fun z => absurd z (by decide))
                refine lv_iload hx hb dL_isSeat_279 (lv_at hl 11 rfl) ?_
                refine lv_iconst (v := 2) hx hb dL_isSeat_281 (by decide) ?_
                refine lv_icmp_ne (tgt := 297) hx hb dL_isSeat_282 (by decide) (fun z => absurd z (by decide)) (fun _ => ?_)
                refine lv_aload_n hx hb dL_isSeat_285 rfl (lv_at hl 9 rfl) ?_
                refine lv_iload hx hb dL_isSeat_286 (lv_at hl 12 rfl) ?_
                refine wy_iald hx hb hK hw.2.1.1 hR.2.1 (k) e5 (by omega) (by omega) dL_isSeat_288 ?_
                refine lv_iconst (v := 1) hx hb dL_isSeat_289 (by decide) ?_
                refine lv_iload hx hb dL_isSeat_290 (lv_at hl 13 rfl) ?_
                refine lv_ishl hx hb dL_isSeat_292 ?_
                refine lv_topi (fun x_21 ex_21 => ?_)
                refine lv_ior hx hb dL_isSeat_293 ?_
                refine lv_topi (fun x_22 ex_22 => ?_)
                refine lv_goto (tgt := 308) hx hb dL_isSeat_294 (by decide) ?_
                refine wq_iast hx hb hK hw hR.2.1 (k) e5 (by omega) (by omega) dL_isSeat_308 (fun H locs fa_23 hc_24 hn_25 hw => ?_)
                obtain ⟨v_26, hv_26⟩ : ∃ y, y = upd v (k) (x_22) := ⟨_, rfl⟩
                rw [← hv_26] at hc_24
                have hc_27 := wy_c.ne2 hR.1 hn_25 hne.1
                have hc_28 := wy_c.ne2 hR.2.2.1 hn_25 (Ne.symm hne.2.2.2.2.1)
                have hc_29 := wy_c.ne2 hR.2.2.2.1 hn_25 (Ne.symm hne.2.2.2.2.2.1)
                have hc_30 := wy_c.ne2 hR.2.2.2.2.1 hn_25 (Ne.symm hne.2.2.2.2.2.2.1)
                refine lv_aload_n hx hb dL_isSeat_309 rfl (lv_at hl 7 rfl) ?_
                refine lv_iload hx hb dL_isSeat_310 (lv_at hl 11 rfl) ?_
                refine lv_iload hx hb dL_isSeat_312 (lv_at hl 12 rfl) ?_
                refine lv_iload hx hb dL_isSeat_314 (lv_at hl 13 rfl) ?_
                refine lv_iconst (v := 0) hx hb dL_isSeat_316 (by decide) ?_
                refine lv_iconst (v := 0) hx hb dL_isSeat_317 (by decide) ?_
                have hix_32 : ix p5 = k := by rw [e5]; exact ix_nI (by omega)
                have hix_33 : ix p6 = j := by rw [e6]; exact ix_nI (by omega)
                have hC_31 : rdC n p5 p6 (bkB (rr (ix p5)) (ix p6)) = 0 := by rw [hix_32, hix_33]; exact rdC_ok (okN_of e5 (by omega) (by omega)) (okN_of (n := 10) e6 (by omega) (by omega)) hcan
                refine wq_call0 (vx_runSX (As := [.ref ox, .int 2, .int p5, .int p6, .int 0, .int (bI false)]) (rest := []) ⟨hx, hb, hml, hown, hts⟩ (m_L_does_book l hnt (fa := fa_23) hq (p5) (p6) (0) (false)) (vx_cwSW 6 hts gL_isSeat_L_does rfl rfl rfl (by decide +kernel) ⟨Nat.le_of_ble_eq_true rfl, Nat.le_of_ble_eq_true rfl⟩) (wq_pre0 hK hE hZ hN hw hA) rfl rfl hl.1 rfl (lv_room (Nat.le_of_ble_eq_true rfl)) dL_isSeat_318 ⟨(show 0 + 4 ≤ 4 by omega), (show 0 + 24 ≤ 24 by omega)⟩) hw hA (fun r_31 L_31 f_31 fx_31 H locs hp hw => ?_)
                obtain ⟨er, ra, ar, hq⟩ := wd_ok hp hC_31
                simp only [hix_32, hix_33] at er hq
                subst er
                obtain ⟨rr_34, hrr_34⟩ : ∃ y : Nat → wr_V, y = va_up rr (k) (vBook (rr (k)) (j)) := ⟨_, rfl⟩
                rw [← hrr_34] at hq
                refine lv_iload hx hb dL_isSeat_321 (lv_at hl 0 rfl) ?_
                refine lv_icmp_ne (tgt := 330) hx hb dL_isSeat_323 (by decide) (fun z => absurd ((P_fb (v := rr k) (r := j) (by omega) (bk_c hcan).2.1).trans (by rw [ex_19, hfr (bk_c hcan).1])) z) (fun _ => ?_)
                refine lv_iconst (v := 1) hx hb dL_isSeat_326 (by decide) ?_
                refine lv_goto (tgt := 331) hx hb dL_isSeat_327 (by decide) ?_
                refine lv_istore (lv' := [(14, .int 1), (13, .int x_19), (12, .int y_16), (11, .int (rch (rr k) j)), (10, .int x_14), (9, .int y_9), (8, .int y_7), (7, .int (mks (rsd (rr k)))), (0, .ref ox), (1, .ref ad), (2, .ref av), (3, .ref ag), (4, .int 2), (5, .int p5), (6, .int p6)]) hx hb dL_isSeat_331 hl (by decide) rfl (fun ls hl => ?_)
                refine lv_iload hx hb dL_isSeat_333 (lv_at hl 0 rfl) ?_
                refine lv_if_eq (tgt := 403) hx hb dL_isSeat_335 (by decide) (fun z => absurd z (by decide)) (fun _ => ?_)
                refine lv_aload_n hx hb dL_isSeat_338 rfl (lv_at hl 8 rfl) ?_
                refine lv_iload hx hb dL_isSeat_339 (lv_at hl 13 rfl) ?_
                refine lv_iload hx hb dL_isSeat_341 (lv_at hl 14 rfl) ?_
                refine vp_callSi (W.runV (As := [.int p5, .int p6]) (rest := []) ⟨hx, hb, hml, hown, hts⟩ (r_X1_charge l hq (p5) (p6) (k) (j) (by omega) (by omega) e5 e6) (cwV 2 hts gL_isSeat_X1_charge rfl rfl rfl (by decide +kernel) ⟨Nat.le_of_ble_eq_true rfl, Nat.le_of_ble_eq_true rfl⟩) (wy_pVR hK hw.1.1 hq.1 rfl) rfl rfl hl.1 rfl (lv_room (Nat.le_of_ble_eq_true rfl)) dL_isSeat_343 ⟨(show 0 + 4 + 0 ≤ 4 by omega), (show 0 + 24 + 0 ≤ 24 by omega)⟩) (fun r_35 er_35 => ?_)
                subst er_35
                refine lv_iload hx hb dL_isSeat_346 (lv_at hl 3 rfl) ?_
                refine lv_iload hx hb dL_isSeat_348 (lv_at hl 2 rfl) ?_
                refine lv_if_eq (tgt := 364) hx hb dL_isSeat_350 (by decide) (fun c_36 => ?_) (fun c_36 => ?_)
                · have bc_36 : (!bkB (rr k) j) = false := bI_0 (hy_16.symm.trans c_36)
                  exact absurd (bc_20.symm.trans bc_36) (by decide)
                · have bc_36 : (!bkB (rr k) j) = true := bI_1 (fun z => c_36 (hy_16.trans z))
                  refine lv_iload hx hb dL_isSeat_353 (lv_at hl 12 rfl) ?_
                  refine lv_iconst (v := 3) hx hb dL_isSeat_355 (by decide) ?_
                  refine lv_icmp_ne (tgt := 364) hx hb dL_isSeat_356 (by decide) (fun _ => ?_) (fun z => absurd z (by decide))
                  refine lv_iconst (v := 0) hx hb dL_isSeat_364 (by decide) ?_
                  refine lv_iadd hx hb dL_isSeat_365 ?_
                  refine lv_topi (fun x_37 ex_37 => ?_)
                  refine lv_icmp_ne (tgt := 403) hx hb dL_isSeat_366 (by decide) (fun z => absurd ((by rw [ex_37, Int32.add_zero, hrr_34, va_up_self]; rfl : rch (rr_34 k) j = x_37)) z) (fun _ => ?_)
                  refine lv_iload hx hb dL_isSeat_369 (lv_at hl 2 rfl) ?_
                  refine lv_if_eq (tgt := 399) hx hb dL_isSeat_371 (by decide) (fun c_38 => ?_) (fun c_38 => ?_)
                  · have bc_38 : (!bkB (rr k) j) = false := bI_0 (hy_16.symm.trans c_38)
                    exact absurd (bc_36.symm.trans bc_38) (by decide)
                  · have bc_38 : (!bkB (rr k) j) = true := bI_1 (fun z => c_38 (hy_16.trans z))
                    refine lv_aload_n hx hb dL_isSeat_374 rfl (lv_at hl 8 rfl) ?_
                    refine lv_iload hx hb dL_isSeat_375 (lv_at hl 13 rfl) ?_
                    refine vp_callSi (W.runV (As := [.int p5]) (rest := []) ⟨hx, hb, hml, hown, hts⟩ (r_X1_aboard l hq (p5) (k) (by omega) e5) (cwV 1 hts gL_isSeat_X1_aboard rfl rfl rfl (by decide +kernel) ⟨Nat.le_of_ble_eq_true rfl, Nat.le_of_ble_eq_true rfl⟩) (wy_pVR hK hw.1.1 hq.1 rfl) rfl rfl hl.1 rfl (lv_room (Nat.le_of_ble_eq_true rfl)) dL_isSeat_377 ⟨(show 0 + 4 + 0 ≤ 4 by omega), (show 0 + 24 + 0 ≤ 24 by omega)⟩) (fun r_39 er_39 => ?_)
                    subst er_39
                    refine lv_iload hx hb dL_isSeat_380 (lv_at hl 14 rfl) ?_
                    refine lv_ishr hx hb dL_isSeat_382 ?_
                    refine lv_topi (fun x_40 ex_40 => ?_)
                    refine lv_iconst (v := 1) hx hb dL_isSeat_383 (by decide) ?_
                    refine lv_iand hx hb dL_isSeat_384 ?_
                    refine lv_topi (fun x_41 ex_41 => ?_)
                    refine lv_iload hx hb dL_isSeat_385 (lv_at hl 12 rfl) ?_
                    refine lv_iconst (v := 4) hx hb dL_isSeat_387 (by decide) ?_
                    refine lv_icmp_ne (tgt := 395) hx hb dL_isSeat_388 (by decide) (fun _ => ?_) (fun z => absurd z (by decide))
                    refine lv_iconst (v := 0) hx hb dL_isSeat_395 (by decide) ?_
                    refine lv_icmp_ne (tgt := 403) hx hb dL_isSeat_396 (by decide) (fun z => absurd ((by rw [ex_41, ex_40, e6, P_bit _ (by omega), hrr_34, va_up_self]; exact (by show bI (rsd (rr k) j) = 0; rw [(bk_c hcan).2.2.1]; rfl) : x_41 = 0)) z) (fun _ => ?_)
                    refine lv_iconst (v := 1) hx hb dL_isSeat_399 (by decide) ?_
                    refine lv_goto (tgt := 404) hx hb dL_isSeat_400 (by decide) ?_
                    exact wq_zret (b := true) rfl hx hb hr hlocks dL_isSeat_404 hw (show 0 + 4 ≤ 4 by omega) (show 0 + 24 ≤ 24 by omega) ⟨rfl, ra, ar, n, km, mn, wk, po, rr_34, d, v_26, o, fr, g, hq, ⟨hc_27, hc_24, hc_28, hc_29, hc_30, hne⟩, (by rw [hrr_34]; exact J_book hJ (by omega) (by omega) hcan), (by rw [hrr_34]; exact B_book hB (by omega) hn20 (by omega) hcan e6 (hv_26.trans (by rw [ex_22, ex_21])))⟩
            · have bc_18 : (!bkB (rr k) j) = false := bI_0 (hy_16.symm.trans c_18)
              have hcan : bkB (rr k) j = true := by simpa using bc_18
              refine lv_bipush (v := (-10)) hx hb dL_isSeat_200 (by decide) ?_
              refine lv_goto (tgt := 256) hx hb dL_isSeat_202 (by decide) ?_
              refine lv_istore (lv' := [(13, .int (-10)), (12, .int y_16), (11, .int (rch (rr k) j)), (10, .int x_14), (9, .int y_9), (8, .int y_7), (7, .int (mks (rsd (rr k)))), (0, .ref ox), (1, .ref ad), (2, .ref av), (3, .ref ag), (4, .int 2), (5, .int p5), (6, .int p6)]) hx hb dL_isSeat_256 hl (by decide) rfl (fun ls hl => ?_)
              refine lv_aload_n hx hb dL_isSeat_258 rfl (lv_at hl 9 rfl) ?_
              refine lv_iload hx hb dL_isSeat_259 (lv_at hl 12 rfl) ?_
              refine lv_iload hx hb dL_isSeat_261 (lv_at hl 1 rfl) ?_
              refine lv_if_eq (tgt := 272) hx hb dL_isSeat_263 (by decide) (fun c_42 => ?_) (fun c_42 => ?_)
              · have bc_42 : (!bkB (rr k) j) = false := bI_0 (hy_16.symm.trans c_42)
                refine lv_aload_n hx hb dL_isSeat_272 rfl (lv_at hl 9 rfl) ?_
                refine lv_iload hx hb dL_isSeat_273 (lv_at hl 12 rfl) ?_
                refine wy_iald hx hb hK hw.2.1.1 hR.2.1 (k) e5 (by omega) (by omega) dL_isSeat_275 ?_
                refine lv_goto (tgt := 308) hx hb dL_isSeat_276 (by decide) ?_
                refine wq_iast hx hb hK hw hR.2.1 (k) e5 (by omega) (by omega) dL_isSeat_308 (fun H locs fa_43 hc_44 hn_45 hw => ?_)
                obtain ⟨v_46, hv_46⟩ : ∃ y, y = upd v (k) (v k) := ⟨_, rfl⟩
                rw [← hv_46] at hc_44
                have hc_47 := wy_c.ne2 hR.1 hn_45 hne.1
                have hc_48 := wy_c.ne2 hR.2.2.1 hn_45 (Ne.symm hne.2.2.2.2.1)
                have hc_49 := wy_c.ne2 hR.2.2.2.1 hn_45 (Ne.symm hne.2.2.2.2.2.1)
                have hc_50 := wy_c.ne2 hR.2.2.2.2.1 hn_45 (Ne.symm hne.2.2.2.2.2.2.1)
                refine lv_aload_n hx hb dL_isSeat_309 rfl (lv_at hl 7 rfl) ?_
                refine lv_iload hx hb dL_isSeat_310 (lv_at hl 11 rfl) ?_
                refine lv_iload hx hb dL_isSeat_312 (lv_at hl 12 rfl) ?_
                refine lv_iload hx hb dL_isSeat_314 (lv_at hl 13 rfl) ?_
                refine lv_iconst (v := 0) hx hb dL_isSeat_316 (by decide) ?_
                refine lv_iconst (v := 0) hx hb dL_isSeat_317 (by decide) ?_
                have hix_52 : ix p5 = k := by rw [e5]; exact ix_nI (by omega)
                have hix_53 : ix p6 = j := by rw [e6]; exact ix_nI (by omega)
                have hC_51 : rdC n p5 p6 (bkB (rr (ix p5)) (ix p6)) = 2 := by rw [hix_52, hix_53]; exact rdC_no (okN_of e5 (by omega) (by omega)) (okN_of (n := 10) e6 (by omega) (by omega)) hcan
                refine wq_call0 (vx_runSX (As := [.ref ox, .int 2, .int p5, .int p6, .int 0, .int (bI false)]) (rest := []) ⟨hx, hb, hml, hown, hts⟩ (m_L_does_book l hnt (fa := fa_43) hq (p5) (p6) (0) (false)) (vx_cwSW 6 hts gL_isSeat_L_does rfl rfl rfl (by decide +kernel) ⟨Nat.le_of_ble_eq_true rfl, Nat.le_of_ble_eq_true rfl⟩) (wq_pre0 hK hE hZ hN hw hA) rfl rfl hl.1 rfl (lv_room (Nat.le_of_ble_eq_true rfl)) dL_isSeat_318 ⟨(show 0 + 4 ≤ 4 by omega), (show 0 + 24 ≤ 24 by omega)⟩) hw hA (fun r_51 L_51 f_51 fx_51 H locs hp hw => ?_)
                obtain ⟨er, hq⟩ := wd_er hp (by rw [hC_51]; decide) hq
                have er : r_51 = .int (-10) := er.trans (congrArg Value.int (by rw [hC_51]; decide))
                subst er
                refine lv_iload hx hb dL_isSeat_321 (lv_at hl 0 rfl) ?_
                refine lv_icmp_ne (tgt := 330) hx hb dL_isSeat_323 (by decide) (fun z => absurd z (by decide)) (fun _ => ?_)
                refine lv_iconst (v := 1) hx hb dL_isSeat_326 (by decide) ?_
                refine lv_goto (tgt := 331) hx hb dL_isSeat_327 (by decide) ?_
                refine lv_istore (lv' := [(14, .int 1), (13, .int (-10)), (12, .int y_16), (11, .int (rch (rr k) j)), (10, .int x_14), (9, .int y_9), (8, .int y_7), (7, .int (mks (rsd (rr k)))), (0, .ref ox), (1, .ref ad), (2, .ref av), (3, .ref ag), (4, .int 2), (5, .int p5), (6, .int p6)]) hx hb dL_isSeat_331 hl (by decide) rfl (fun ls hl => ?_)
                refine lv_iload hx hb dL_isSeat_333 (lv_at hl 0 rfl) ?_
                refine lv_if_eq (tgt := 403) hx hb dL_isSeat_335 (by decide) (fun z => absurd z (by decide)) (fun _ => ?_)
                refine lv_aload_n hx hb dL_isSeat_338 rfl (lv_at hl 8 rfl) ?_
                refine lv_iload hx hb dL_isSeat_339 (lv_at hl 13 rfl) ?_
                refine lv_iload hx hb dL_isSeat_341 (lv_at hl 14 rfl) ?_
                refine vp_callSi (W.runV (As := [.int p5, .int p6]) (rest := []) ⟨hx, hb, hml, hown, hts⟩ (r_X1_charge l hq (p5) (p6) (k) (j) (by omega) (by omega) e5 e6) (cwV 2 hts gL_isSeat_X1_charge rfl rfl rfl (by decide +kernel) ⟨Nat.le_of_ble_eq_true rfl, Nat.le_of_ble_eq_true rfl⟩) (wy_pVR hK hw.1.1 hq.1 rfl) rfl rfl hl.1 rfl (lv_room (Nat.le_of_ble_eq_true rfl)) dL_isSeat_343 ⟨(show 0 + 4 + 0 ≤ 4 by omega), (show 0 + 24 + 0 ≤ 24 by omega)⟩) (fun r_54 er_54 => ?_)
                subst er_54
                refine lv_iload hx hb dL_isSeat_346 (lv_at hl 3 rfl) ?_
                refine lv_iload hx hb dL_isSeat_348 (lv_at hl 2 rfl) ?_
                refine lv_if_eq (tgt := 364) hx hb dL_isSeat_350 (by decide) (fun c_55 => ?_) (fun c_55 => ?_)
                · have bc_55 : (!bkB (rr k) j) = false := bI_0 (hy_16.symm.trans c_55)
                  refine lv_iconst (v := 0) hx hb dL_isSeat_364 (by decide) ?_
                  refine lv_iadd hx hb dL_isSeat_365 ?_
                  refine lv_topi (fun x_56 ex_56 => ?_)
                  refine lv_icmp_ne (tgt := 403) hx hb dL_isSeat_366 (by decide) (fun z => absurd ((by rw [ex_56, Int32.add_zero] : rch (rr k) j = x_56)) z) (fun _ => ?_)
                  refine lv_iload hx hb dL_isSeat_369 (lv_at hl 2 rfl) ?_
                  refine lv_if_eq (tgt := 399) hx hb dL_isSeat_371 (by decide) (fun c_57 => ?_) (fun c_57 => ?_)
                  · have bc_57 : (!bkB (rr k) j) = false := bI_0 (hy_16.symm.trans c_57)
                    refine lv_iconst (v := 1) hx hb dL_isSeat_399 (by decide) ?_
                    refine lv_goto (tgt := 404) hx hb dL_isSeat_400 (by decide) ?_
                    exact wq_zret (b := true) rfl hx hb hr hlocks dL_isSeat_404 hw (show 0 + 4 ≤ 4 by omega) (show 0 + 24 ≤ 24 by omega) ⟨rfl, ra, ar, n, km, mn, wk, po, rr, d, v_46, o, fr, g, hq, ⟨hc_47, hc_44, hc_48, hc_49, hc_50, hne⟩, hJ.up, hB.noop hv_46⟩
                  · have bc_57 : (!bkB (rr k) j) = true := bI_1 (fun z => c_57 (hy_16.trans z))
                    exact absurd (bc_55.symm.trans bc_57) (by decide)
                · have bc_55 : (!bkB (rr k) j) = true := bI_1 (fun z => c_55 (hy_16.trans z))
                  exact absurd (bc_42.symm.trans bc_55) (by decide)
              · have bc_42 : (!bkB (rr k) j) = true := bI_1 (fun z => c_42 (hy_16.trans z))
                exact absurd (bc_18.symm.trans bc_42) (by decide)
          refine lv_aload_n hx hb dL_isSeat_111 rfl (lv_at hl 6 rfl) ?_
          refine lv_bipush (v := 20) hx hb dL_isSeat_112 (by decide) ?_
          refine lv_iload hx hb dL_isSeat_114 (lv_at hl 10 rfl) ?_
          refine lv_iadd hx hb dL_isSeat_116 ?_
          refine lv_topi (fun x_58 ex_58 => ?_)
          have nx_58 : x_58 = nI (20 + k) := ex_58.trans ((congr (congrArg (fun u v : Int32 => u + v) (rfl : (20 : Int32) = nI 20)) e5).trans (nI_add _ _))
          refine wy_iald hx hb hK hw.2.1.1 hR.1 (20 + k) nx_58 (by omega) (by omega) dL_isSeat_117 ?_
          refine lv_if_ne (tgt := 192) hx hb dL_isSeat_118 (by decide) (fun c_59 => ?_) (fun c_59 => ?_)
          · have bc_59 : (rfi (rr k)) = true := bI_1 (fun z => c_59 ((hB.2.1 (k) (by omega)).trans z))
            refine lv_iconst (v := 0) hx hb dL_isSeat_192 (by decide) ?_
            exact JN_17 _ (by simp [bkB, bI, bc_59]) ls (lv_sub hl [0, 1, 2, 3, 4, 5, 6, 7, 8, 9, 10, 11] rfl)
          · have bc_59 : (rfi (rr k)) = false := bI_0 ((hB.2.1 (k) (by omega)).symm.trans c_59)
            refine lv_iload hx hb dL_isSeat_121 (lv_at hl 9 rfl) ?_
            refine lv_iconst (v := 2) hx hb dL_isSeat_123 (by decide) ?_
            refine lv_icmp_ne (tgt := 145) hx hb dL_isSeat_124 (by decide) (fun z => absurd z (by decide)) (fun _ => ?_)
            refine lv_iload hx hb dL_isSeat_127 (lv_at hl 1 rfl) ?_
            refine lv_if_le (tgt := 192) hx hb dL_isSeat_129 (by decide) (fun c_60 => ?_) (fun c_60 => ?_)
            · refine lv_iconst (v := 0) hx hb dL_isSeat_192 (by decide) ?_
              exact JN_17 _ (by have hz := c_60; rw [hfr bc_59] at hz; simp [bkB, bI, bc_59, hz]) ls (lv_sub hl [0, 1, 2, 3, 4, 5, 6, 7, 8, 9, 10, 11] rfl)
            · refine lv_iload hx hb dL_isSeat_132 (lv_at hl 2 rfl) ?_
              refine lv_if_ne (tgt := 192) hx hb dL_isSeat_134 (by decide) (fun c_61 => ?_) (fun c_61 => ?_)
              · have bc_61 : (bkv (rr k) j) = true := bI_1 (fun z => c_61 (hy_9.trans z))
                refine lv_iconst (v := 0) hx hb dL_isSeat_192 (by decide) ?_
                exact JN_17 _ (by have hz := c_60; rw [hfr bc_59] at hz; simp [bkB, bI, bc_59, bkv_f bc_59 bc_61, hz]) ls (lv_sub hl [0, 1, 2, 3, 4, 5, 6, 7, 8, 9, 10, 11] rfl)
              · have bc_61 : (bkv (rr k) j) = false := bI_0 (hy_9.symm.trans c_61)
                refine lv_iload hx hb dL_isSeat_137 (lv_at hl 3 rfl) ?_
                refine lv_if_ne (tgt := 192) hx hb dL_isSeat_139 (by decide) (fun c_62 => ?_) (fun c_62 => ?_)
                · have bc_62 : (rsd (rr k) j) = true := bI_1 (fun z => c_62 (hy_7.trans z))
                  refine lv_iconst (v := 0) hx hb dL_isSeat_192 (by decide) ?_
                  exact JN_17 _ (by have hz := c_60; rw [hfr bc_59] at hz; simp [bkB, bI, bc_59, bkv_f bc_59 bc_61, bc_62, hz]) ls (lv_sub hl [0, 1, 2, 3, 4, 5, 6, 7, 8, 9, 10, 11] rfl)
                · have bc_62 : (rsd (rr k) j) = false := bI_0 (hy_7.symm.trans c_62)
                  refine lv_goto (tgt := 188) hx hb dL_isSeat_142 (by decide) ?_
                  refine lv_iconst (v := 1) hx hb dL_isSeat_188 (by decide) ?_
                  refine lv_goto (tgt := 193) hx hb dL_isSeat_189 (by decide) ?_
                  exact JN_17 _ (by have hz := c_60; rw [hfr bc_59] at hz; simp [bkB, bI, bc_59, bkv_f bc_59 bc_61, bc_62, hz]) ls (lv_sub hl [0, 1, 2, 3, 4, 5, 6, 7, 8, 9, 10, 11] rfl)
        refine lv_aload_n hx hb dL_isSeat_64 rfl (lv_at hl 4 rfl) ?_
        refine lv_iload hx hb dL_isSeat_65 (lv_at hl 7 rfl) ?_
        refine wy_iald hx hb hK hw.2.1.1 hR.2.1 (k) e5 (by omega) (by omega) dL_isSeat_67 ?_
        refine lv_iload hx hb dL_isSeat_68 (lv_at hl 8 rfl) ?_
        refine lv_ishr hx hb dL_isSeat_70 ?_
        refine lv_topi (fun x_63 ex_63 => ?_)
        refine lv_iconst (v := 1) hx hb dL_isSeat_71 (by decide) ?_
        refine lv_iand hx hb dL_isSeat_72 ?_
        refine lv_topi (fun x_64 ex_64 => ?_)
        have hbt_65 : x_64 = bI (bkv (rr k) j) := by rw [ex_64, ex_63, e6]; exact (by rw [hB.vk (by omega)]; exact P_vbit _ (by omega))
        refine lv_iconst (v := 1) hx hb dL_isSeat_73 (by decide) ?_
        refine lv_icmp_ne (tgt := 81) hx hb dL_isSeat_74 (by decide) (fun c_66 => ?_) (fun c_66 => ?_)
        · have bc_66 : (bkv (rr k) j) = false := bI_n1 (fun z => c_66 (hbt_65.trans z))
          refine lv_iconst (v := 0) hx hb dL_isSeat_81 (by decide) ?_
          exact JN_10 _ (by rw [bc_66]; rfl) ls (lv_sub hl [0, 1, 2, 3, 4, 5, 6, 7, 8] rfl)
        · have bc_66 : (bkv (rr k) j) = true := bI_e1 (hbt_65.symm.trans c_66)
          refine lv_iconst (v := 1) hx hb dL_isSeat_77 (by decide) ?_
          refine lv_goto (tgt := 82) hx hb dL_isSeat_78 (by decide) ?_
          exact JN_10 _ (by rw [bc_66]; rfl) ls (lv_sub hl [0, 1, 2, 3, 4, 5, 6, 7, 8] rfl)
      refine lv_iload hx hb dL_isSeat_46 (lv_at hl 0 rfl) ?_
      refine lv_iload hx hb dL_isSeat_48 (lv_at hl 7 rfl) ?_
      refine lv_ishr hx hb dL_isSeat_50 ?_
      refine lv_topi (fun x_67 ex_67 => ?_)
      refine lv_iconst (v := 1) hx hb dL_isSeat_51 (by decide) ?_
      refine lv_iand hx hb dL_isSeat_52 ?_
      refine lv_topi (fun x_68 ex_68 => ?_)
      have hbt_69 : x_68 = bI (rsd (rr k) j) := by rw [ex_68, ex_67, e6]; exact P_bit _ (by omega)
      refine lv_iconst (v := 1) hx hb dL_isSeat_53 (by decide) ?_
      refine lv_icmp_ne (tgt := 61) hx hb dL_isSeat_54 (by decide) (fun c_70 => ?_) (fun c_70 => ?_)
      · have bc_70 : (rsd (rr k) j) = false := bI_n1 (fun z => c_70 (hbt_69.trans z))
        refine lv_iconst (v := 0) hx hb dL_isSeat_61 (by decide) ?_
        exact JN_8 _ (by rw [bc_70]; rfl) ls (lv_sub hl [0, 1, 2, 3, 4, 5, 6, 7] rfl)
      · have bc_70 : (rsd (rr k) j) = true := bI_e1 (hbt_69.symm.trans c_70)
        refine lv_iconst (v := 1) hx hb dL_isSeat_57 (by decide) ?_
        refine lv_goto (tgt := 62) hx hb dL_isSeat_58 (by decide) ?_
        exact JN_8 _ (by rw [bc_70]; rfl) ls (lv_sub hl [0, 1, 2, 3, 4, 5, 6, 7] rfl)
    · have nc_5 : ¬ (j ≤ 9) := fun z => c_5 ((wy_le e6 (rfl : (9 : Int32) = nI 9) (by omega) (by decide)).mpr z)
      refine lv_aload_n hx hb dL_isSeat_15 rfl (lv_at hl 0 rfl) ?_
      refine lv_iload hx hb dL_isSeat_16 (lv_at hl 4 rfl) ?_
      refine lv_iload hx hb dL_isSeat_18 (lv_at hl 5 rfl) ?_
      refine lv_iload hx hb dL_isSeat_20 (lv_at hl 6 rfl) ?_
      refine lv_iconst (v := 0) hx hb dL_isSeat_22 (by decide) ?_
      refine lv_iconst (v := 0) hx hb dL_isSeat_23 (by decide) ?_
      have hix_72 : ix p5 = k := by rw [e5]; exact ix_nI (by omega)
      have hix_73 : ix p6 = j := by rw [e6]; exact ix_nI (by omega)
      have hC_71 : rdC n p5 p6 (bkB (rr (ix p5)) (ix p6)) = 1 := by exact rdC_o2 (by rw [e6]; exact okN_out (n := 10) (by omega) (by omega))
      refine wq_call0 (vx_runSX (As := [.ref ox, .int 2, .int p5, .int p6, .int 0, .int (bI false)]) (rest := []) ⟨hx, hb, hml, hown, hts⟩ (m_L_does_book l hnt (fa := fa) hq (p5) (p6) (0) (false)) (vx_cwSW 6 hts gL_isSeat_L_does rfl rfl rfl (by decide +kernel) ⟨Nat.le_of_ble_eq_true rfl, Nat.le_of_ble_eq_true rfl⟩) (wq_pre0 hK hE hZ hN hw hA) rfl rfl hl.1 rfl (lv_room (Nat.le_of_ble_eq_true rfl)) dL_isSeat_24 ⟨(show 0 + 4 ≤ 4 by omega), (show 0 + 24 ≤ 24 by omega)⟩) hw hA (fun r_71 L_71 f_71 fx_71 H locs hp hw => ?_)
      obtain ⟨er, hq⟩ := wd_er hp (by rw [hC_71]; decide) hq
      have er : r_71 = .int (-30) := er.trans (congrArg Value.int (by rw [hC_71]; decide))
      subst er
      refine lv_bipush (v := (-30)) hx hb dL_isSeat_27 (by decide) ?_
      refine lv_icmp_ne (tgt := 36) hx hb dL_isSeat_29 (by decide) (fun z => absurd z (by decide)) (fun _ => ?_)
      refine lv_iconst (v := 1) hx hb dL_isSeat_32 (by decide) ?_
      refine lv_goto (tgt := 37) hx hb dL_isSeat_33 (by decide) ?_
      exact wq_zret (b := true) rfl hx hb hr hlocks dL_isSeat_37 hw (show 0 + 4 ≤ 4 by omega) (show 0 + 24 ≤ 24 by omega) ⟨rfl, ra, ar, n, km, mn, wk, po, rr, d, v, o, fr, g, hq, ⟨hR.1, hR.2.1, hR.2.2.1, hR.2.2.2.1, hR.2.2.2.2.1, hne⟩, hJ.up, hB⟩
