set_option maxHeartbeats 4000000 in
set_option maxRecDepth 100000 in
theorem m_L_isSeat_leave (l : Launch) (hnt : l.stackTraces = false) {G : wy_G} {L0 La : List Nat} {f0 fa : Nat → va_E} {sz : Nat} {ox lo : Nat} {ra ar : Nat → Nat} {t n : Nat} {km mn : Int32} {wk : Nat} {po : Nat → Int32} {rr : Nat → wr_V} {ad av ao af ag : Nat} {d v o fr g : Nat → Int32} (hq : wx_S G L0 f0 ox lo ra ar n km mn wk po rr) (hR : wR G La fa ad av ao af ag d v o fr g) (hJ : wJ t n km mn wk po rr) (hB : wB n km mn wk rr d v o fr g) (ht : t ≤ 80) (p5 p6 : Int32) (k j : Nat) (hk : k ≤ n) (hj : j ≤ 10) (e5 : p5 = nI k) (e6 : p6 = nI j) : Met l yL_isSeat wsL_isSeat ({ frames := 10, cells := 4, slots := 24, locals := 175 } : Room) (va_Pc [.ref ox, .ref ad, .ref av, .ref ag, .int 5, .int p5, .int p6] (wq_P G L0 f0 La fa sz)) (wq_Q G L0 La sz (fun r1 L1 f1 fa1 => r1 = .int (bI true) ∧ wZ G ox lo ad av ao af ag La (t + 1) L1 f1 fa1)) 4 24 (wy_A (L0 ++ La) sz) := by
  refine Met.ofW (cc := cL_isSeat) (maxL := 15) (ret := (some .boolean)) (by decide) rfl ?_
  intro p e s m args below meth c s₁ B hml hv
  obtain ⟨rfl, hP⟩ := hv
  obtain ⟨hw, hK, hA⟩ := wq_start hP
  obtain ⟨hv, -, -, hE, hZ, hN⟩ := hP
  have hsz := hv.1
  subst hsz
  have hx := B.exec
  have hb := B.bytes
  have hr := B.returns
  have hts := atoms_spec (ws := wsL_isSeat) B.pre
  have hown : s.vm.findClass RL = some m.cls := findClass_of_methodNamed B.named
  have hlocks := B.notSynchronized
  have hn20 : n ≤ 20 := hJ.2.1
  have hwk20 : wk ≤ 20 := hJ.2.2.1
  have hne := hR.2.2.2.2.2
  have hl := lv_entry ([.ref ox, .ref ad, .ref av, .ref ag, .int 5, .int p5, .int p6]) (n := 15) (Nat.le_of_ble_eq_true rfl)
  rw [lg_entry_eq]
  generalize (lg_sl ([.ref ox, .ref ad, .ref av, .ref ag, .int 5, .int p5, .int p6]) ++ List.replicate (15 - (lg_sl ([.ref ox, .ref ad, .ref av, .ref ag, .int 5, .int p5, .int p6])).length) Slot.unset).toArray = ls at hl ⊢
  have hl : lv_has ls 15 [(0, .ref ox), (1, .ref ad), (2, .ref av), (3, .ref ag), (4, .int 5), (5, .int p5), (6, .int p6)] := hl
  refine lv_iload hx hb dL_isSeat_0 (lv_at hl 5 rfl) ?_
  refine lv_aload_n hx hb dL_isSeat_2 rfl (lv_at hl 3 rfl) ?_
  refine lv_iconst (v := 0) hx hb dL_isSeat_3 (by decide) ?_
  refine wy_iald hx hb hK hw.2.1.1 hR.2.2.2.2.1 (0) (rfl : (0 : Int32) = nI 0) (by omega) (by omega) dL_isSeat_4 ?_
  refine lv_icmp_ge (tgt := 15) hx hb dL_isSeat_5 (by decide) (fun c_1 => ?_) (fun c_1 => ?_)
  · have nc_1 : n ≤ k := (wy_ge e5 hB.2.2.2.2.2.2.1 (by omega) (by omega)).mp c_1
    refine lv_aload_n hx hb dL_isSeat_15 rfl (lv_at hl 0 rfl) ?_
    refine lv_iload hx hb dL_isSeat_16 (lv_at hl 4 rfl) ?_
    refine lv_iload hx hb dL_isSeat_18 (lv_at hl 5 rfl) ?_
    refine lv_iload hx hb dL_isSeat_20 (lv_at hl 6 rfl) ?_
    refine lv_iconst (v := 0) hx hb dL_isSeat_22 (by decide) ?_
    refine lv_iconst (v := 0) hx hb dL_isSeat_23 (by decide) ?_
    have hix_3 : ix p5 = k := by rw [e5]; exact ix_nI (by omega)
    have hix_4 : ix p6 = j := by rw [e6]; exact ix_nI (by omega)
    have hC_2 : rdC n p5 p6 (lvB (rr (ix p5)) (ix p6)) = 1 := by exact rdC_o1 (by rw [e5]; exact okN_out (by omega) (by omega))
    refine wq_call0 (vx_runSX (As := [.ref ox, .int 5, .int p5, .int p6, .int 0, .int (bI false)]) (rest := []) ⟨hx, hb, hml, hown, hts⟩ (m_L_does_leave l hnt (fa := fa) hq (p5) (p6) (0) (false)) (vx_cwSW 6 hts gL_isSeat_L_does rfl rfl rfl (by decide +kernel) ⟨Nat.le_of_ble_eq_true rfl, Nat.le_of_ble_eq_true rfl⟩) (wq_pre0 hK hE hZ hN hw hA) rfl rfl hl.1 rfl (lv_room (Nat.le_of_ble_eq_true rfl)) dL_isSeat_24 ⟨(show 0 + 4 ≤ 4 by omega), (show 0 + 24 ≤ 24 by omega)⟩) hw hA (fun r_2 L_2 f_2 fx_2 H locs hp hw => ?_)
    obtain ⟨er, hq⟩ := wd_er hp (by rw [hC_2]; decide) hq
    have er : r_2 = .int (-30) := er.trans (congrArg Value.int (by rw [hC_2]; decide))
    subst er
    refine lv_bipush (v := (-30)) hx hb dL_isSeat_27 (by decide) ?_
    refine lv_icmp_ne (tgt := 36) hx hb dL_isSeat_29 (by decide) (fun z => absurd z (by decide)) (fun _ => ?_)
    refine lv_iconst (v := 1) hx hb dL_isSeat_32 (by decide) ?_
    refine lv_goto (tgt := 37) hx hb dL_isSeat_33 (by decide) ?_
    exact wq_zret (b := true) rfl hx hb hr hlocks dL_isSeat_37 hw (show 0 + 4 ≤ 4 by omega) (show 0 + 24 ≤ 24 by omega) ⟨rfl, ra, ar, n, km, mn, wk, po, rr, d, v, o, fr, g, hq, ⟨hR.1, hR.2.1, hR.2.2.1, hR.2.2.2.1, hR.2.2.2.2.1, hne⟩, hJ.up, hB⟩
  · have nc_1 : ¬ (n ≤ k) := fun z => c_1 ((wy_ge e5 hB.2.2.2.2.2.2.1 (by omega) (by omega)).mpr z)
    refine lv_iload hx hb dL_isSeat_8 (lv_at hl 6 rfl) ?_
    refine lv_bipush (v := 9) hx hb dL_isSeat_10 (by decide) ?_
    refine lv_icmp_le (tgt := 38) hx hb dL_isSeat_12 (by decide) (fun c_5 => ?_) (fun c_5 => ?_)
    · have nc_5 : j ≤ 9 := (wy_le e6 (rfl : (9 : Int32) = nI 9) (by omega) (by decide)).mp c_5
      refine lv_aload_n hx hb dL_isSeat_38 rfl (lv_at hl 0 rfl) ?_
      refine lv_iload hx hb dL_isSeat_39 (lv_at hl 5 rfl) ?_
      refine vp_callSi (W.runV (As := [.int p5]) (rest := []) ⟨hx, hb, hml, hown, hts⟩ (r_X1_aboard l hq (p5) (k) (by omega) e5) (cwV 1 hts gL_isSeat_X1_aboard rfl rfl rfl (by decide +kernel) ⟨Nat.le_of_ble_eq_true rfl, Nat.le_of_ble_eq_true rfl⟩) (wy_pVR hK hw.1.1 hq.1 rfl) rfl rfl hl.1 rfl (lv_room (Nat.le_of_ble_eq_true rfl)) dL_isSeat_41 ⟨(show 0 + 0 ≤ 4 by omega), (show 0 + 0 ≤ 24 by omega)⟩) (fun r_6 er_6 => ?_)
      subst er_6
      refine lv_istore (lv' := [(7, .int (mks (rsd (rr k)))), (0, .ref ox), (1, .ref ad), (2, .ref av), (3, .ref ag), (4, .int 5), (5, .int p5), (6, .int p6)]) hx hb dL_isSeat_44 hl (by decide) rfl (fun ls hl => ?_)
      have JN_8 : ∀ (y_7 : Int32), y_7 = bI (rsd (rr k) j) → ∀ ls : Array Slot, lv_has ls 15 [(7, .int (mks (rsd (rr k)))), (0, .ref ox), (1, .ref ad), (2, .ref av), (3, .ref ag), (4, .int 5), (5, .int p5), (6, .int p6)] → W p l e (headSpec wsL_isSeat ({ frames := 10, cells := 4, slots := 24, locals := 175 } : Room)).room s m ([.ref ox, .ref ad, .ref av, .ref ag, .int 5, .int p5, .int p6] : List Value).toArray below meth c s.heap [] (0) (0) (MQ below (wq_Q G L0 La s.heap.size (fun r1 L1 f1 fa1 => r1 = .int (bI true) ∧ wZ G ox lo ad av ao af ag La (t + 1) L1 f1 fa1)) ([.ref ox, .ref ad, .ref av, .ref ag, .int 5, .int p5, .int p6] : List Value).toArray s 4 24 (wy_A (L0 ++ La) s.heap.size)) (F0 m 62 ls [.int y_7]) := by
        intro y_7 hy_7 ls hl
        refine lv_istore (lv' := [(8, .int y_7), (7, .int (mks (rsd (rr k)))), (0, .ref ox), (1, .ref ad), (2, .ref av), (3, .ref ag), (4, .int 5), (5, .int p5), (6, .int p6)]) hx hb dL_isSeat_62 hl (by decide) rfl (fun ls hl => ?_)
        have JN_10 : ∀ (y_9 : Int32), y_9 = bI (bkv (rr k) j) → ∀ ls : Array Slot, lv_has ls 15 [(8, .int y_7), (7, .int (mks (rsd (rr k)))), (0, .ref ox), (1, .ref ad), (2, .ref av), (3, .ref ag), (4, .int 5), (5, .int p5), (6, .int p6)] → W p l e (headSpec wsL_isSeat ({ frames := 10, cells := 4, slots := 24, locals := 175 } : Room)).room s m ([.ref ox, .ref ad, .ref av, .ref ag, .int 5, .int p5, .int p6] : List Value).toArray below meth c s.heap [] (0) (0) (MQ below (wq_Q G L0 La s.heap.size (fun r1 L1 f1 fa1 => r1 = .int (bI true) ∧ wZ G ox lo ad av ao af ag La (t + 1) L1 f1 fa1)) ([.ref ox, .ref ad, .ref av, .ref ag, .int 5, .int p5, .int p6] : List Value).toArray s 4 24 (wy_A (L0 ++ La) s.heap.size)) (F0 m 82 ls [.int y_9]) := by
          intro y_9 hy_9 ls hl
          refine lv_istore (lv' := [(9, .int y_9), (8, .int y_7), (7, .int (mks (rsd (rr k)))), (0, .ref ox), (1, .ref ad), (2, .ref av), (3, .ref ag), (4, .int 5), (5, .int p5), (6, .int p6)]) hx hb dL_isSeat_82 hl (by decide) rfl (fun ls hl => ?_)
          refine lv_iconst (v := 4) hx hb dL_isSeat_84 (by decide) ?_
          refine lv_iload hx hb dL_isSeat_85 (lv_at hl 2 rfl) ?_
          refine vp_callSi (W.runS (As := [.int (mks (rsd (rr k)))]) (rest := [.int 4]) ⟨hx, hb, hml, hown, hts⟩ (m_L_bits l (fun z9 => decide (z9 < 10) && rsd (rr k) z9) (mks (rsd (rr k))) (fun i hi => mks_bt _ (by omega))) (va_cwS 1 hts gL_isSeat_L_bits rfl rfl rfl (by decide +kernel) ⟨Nat.le_of_ble_eq_true rfl, Nat.le_of_ble_eq_true rfl⟩) wy_pSN rfl rfl hl.1 rfl (lv_room (Nat.le_of_ble_eq_true rfl)) dL_isSeat_87 ⟨(show 0 + 0 ≤ 4 by omega), (show 0 + 0 ≤ 24 by omega)⟩) (fun r_11 er_11 => ?_)
          subst er_11
          refine lv_isub hx hb dL_isSeat_90 ?_
          refine lv_topi (fun x_12 ex_12 => ?_)
          refine lv_aload_n hx hb dL_isSeat_91 rfl (lv_at hl 5 rfl) ?_
          refine lv_iload hx hb dL_isSeat_92 (lv_at hl 8 rfl) ?_
          refine wy_iald hx hb hK hw.2.1.1 hR.2.1 (k) e5 (by omega) (by omega) dL_isSeat_94 ?_
          refine vp_callSi (W.runS (As := [.int (v k)]) (rest := [.int x_12]) ⟨hx, hb, hml, hown, hts⟩ (m_L_bits l (fun z9 => decide (z9 < 10) && (!rfi (rr k) && rbk (rr k) z9)) (v k) (fun i hi => by rw [hB.vk (by omega)]; exact vmk_bt _ (by omega))) (va_cwS 1 hts gL_isSeat_L_bits rfl rfl rfl (by decide +kernel) ⟨Nat.le_of_ble_eq_true rfl, Nat.le_of_ble_eq_true rfl⟩) wy_pSN rfl rfl hl.1 rfl (lv_room (Nat.le_of_ble_eq_true rfl)) dL_isSeat_95 ⟨(show 0 + 0 ≤ 4 by omega), (show 0 + 0 ≤ 24 by omega)⟩) (fun r_13 er_13 => ?_)
          subst er_13
          refine lv_isub hx hb dL_isSeat_98 ?_
          refine lv_topi (fun x_14 ex_14 => ?_)
          refine lv_istore (lv' := [(10, .int x_14), (9, .int y_9), (8, .int y_7), (7, .int (mks (rsd (rr k)))), (0, .ref ox), (1, .ref ad), (2, .ref av), (3, .ref ag), (4, .int 5), (5, .int p5), (6, .int p6)]) hx hb dL_isSeat_99 hl (by decide) rfl (fun ls hl => ?_)
          have hfr : rfi (rr k) = false → x_14 = freeR (rr k) := fun z => (by rw [ex_14, ex_12]; exact P_free z)
          refine lv_aload_n hx hb dL_isSeat_101 rfl (lv_at hl 4 rfl) ?_
          refine lv_iload hx hb dL_isSeat_102 (lv_at hl 9 rfl) ?_
          refine lv_iload hx hb dL_isSeat_104 (lv_at hl 10 rfl) ?_
          refine vp_callSi (W.runV (As := [.int p5, .int p6]) (rest := []) ⟨hx, hb, hml, hown, hts⟩ (r_X1_charge l hq (p5) (p6) (k) (j) (by omega) (by omega) e5 e6) (cwV 2 hts gL_isSeat_X1_charge rfl rfl rfl (by decide +kernel) ⟨Nat.le_of_ble_eq_true rfl, Nat.le_of_ble_eq_true rfl⟩) (wy_pVR hK hw.1.1 hq.1 rfl) rfl rfl hl.1 rfl (lv_room (Nat.le_of_ble_eq_true rfl)) dL_isSeat_106 ⟨(show 0 + 0 ≤ 4 by omega), (show 0 + 0 ≤ 24 by omega)⟩) (fun r_15 er_15 => ?_)
          subst er_15
          refine lv_istore (lv' := [(11, .int (rch (rr k) j)), (10, .int x_14), (9, .int y_9), (8, .int y_7), (7, .int (mks (rsd (rr k)))), (0, .ref ox), (1, .ref ad), (2, .ref av), (3, .ref ag), (4, .int 5), (5, .int p5), (6, .int p6)]) hx hb dL_isSeat_109 hl (by decide) rfl (fun ls hl => ?_)
          have JN_17 : ∀ (y_16 : Int32), y_16 = bI (!lvB (rr k) j) → ∀ ls : Array Slot, lv_has ls 15 [(11, .int (rch (rr k) j)), (10, .int x_14), (9, .int y_9), (8, .int y_7), (7, .int (mks (rsd (rr k)))), (0, .ref ox), (1, .ref ad), (2, .ref av), (3, .ref ag), (4, .int 5), (5, .int p5), (6, .int p6)] → W p l e (headSpec wsL_isSeat ({ frames := 10, cells := 4, slots := 24, locals := 175 } : Room)).room s m ([.ref ox, .ref ad, .ref av, .ref ag, .int 5, .int p5, .int p6] : List Value).toArray below meth c s.heap [] (0) (0) (MQ below (wq_Q G L0 La s.heap.size (fun r1 L1 f1 fa1 => r1 = .int (bI true) ∧ wZ G ox lo ad av ao af ag La (t + 1) L1 f1 fa1)) ([.ref ox, .ref ad, .ref av, .ref ag, .int 5, .int p5, .int p6] : List Value).toArray s 4 24 (wy_A (L0 ++ La) s.heap.size)) (F0 m 193 ls [.int y_16]) := by
            intro y_16 hy_16 ls hl
            refine lv_istore (lv' := [(12, .int y_16), (11, .int (rch (rr k) j)), (10, .int x_14), (9, .int y_9), (8, .int y_7), (7, .int (mks (rsd (rr k)))), (0, .ref ox), (1, .ref ad), (2, .ref av), (3, .ref ag), (4, .int 5), (5, .int p5), (6, .int p6)]) hx hb dL_isSeat_193 hl (by decide) rfl (fun ls hl => ?_)
            refine lv_iload hx hb dL_isSeat_195 (lv_at hl 0 rfl) ?_
            refine lv_if_ne (tgt := 205) hx hb dL_isSeat_197 (by decide) (fun c_18 => ?_) (fun c_18 => ?_)
            · have bc_18 : (!lvB (rr k) j) = true := bI_1 (fun z => c_18 (hy_16.trans z))
              have hcan : lvB (rr k) j = false := by simpa using bc_18
              refine lv_iload hx hb dL_isSeat_205 (lv_at hl 10 rfl) ?_
              refine lv_iconst (v := 2) hx hb dL_isSeat_207 (by decide) ?_
              refine lv_icmp_ne (tgt := 218) hx hb dL_isSeat_208 (by decide) (fun _ => ?_) (fun z => absurd z (by decide))
              refine lv_iload hx hb dL_isSeat_218 (lv_at hl 10 rfl) ?_
              refine lv_iconst (v := 3) hx hb dL_isSeat_220 (by decide) ?_
              refine lv_icmp_ne (tgt := 238) hx hb dL_isSeat_221 (by decide) (fun _ => ?_) (fun z => absurd z (by decide))
              refine lv_iload hx hb dL_isSeat_238 (lv_at hl 10 rfl) ?_
              refine lv_iconst (v := 4) hx hb dL_isSeat_240 (by decide) ?_
              refine lv_icmp_ne (tgt := 254) hx hb dL_isSeat_241 (by decide) (fun _ => ?_) (fun z => absurd z (by decide))
              refine lv_iload hx hb dL_isSeat_254 (lv_at hl 1 rfl) ?_
              refine lv_istore (lv' := [(13, .int (rch (rr k) j)), (12, .int y_16), (11, .int (rch (rr k) j)), (10, .int x_14), (9, .int y_9), (8, .int y_7), (7, .int (mks (rsd (rr k)))), (0, .ref ox), (1, .ref ad), (2, .ref av), (3, .ref ag), (4, .int 5), (5, .int p5), (6, .int p6)]) hx hb dL_isSeat_256 hl (by decide) rfl (fun ls hl => ?_)
              refine lv_aload_n hx hb dL_isSeat_258 rfl (lv_at hl 9 rfl) ?_
              refine lv_iload hx hb dL_isSeat_259 (lv_at hl 12 rfl) ?_
              refine lv_iload hx hb dL_isSeat_261 (lv_at hl 1 rfl) ?_
              refine lv_if_eq (tgt := 272) hx hb dL_isSeat_263 (by decide) (fun c_19 => ?_) (fun c_19 => ?_)
              · have bc_19 : (!lvB (rr k) j) = false := bI_0 (hy_16.symm.trans c_19)
                exact absurd (bc_18.symm.trans bc_19) (by decide)
              · have bc_19 : (!lvB (rr k) j) = true := bI_1 (fun z => c_19 (hy_16.trans z))
                refine lv_iload hx hb dL_isSeat_266 (lv_at hl 11 rfl) ?_
                refine lv_iconst (v := 5) hx hb dL_isSeat_268 (by decide) ?_
                refine lv_icmp_ne (tgt := 279) hx hb dL_isSeat_269 (by decide) (fun z => absurd z (by decide)) (fun _ => ?_)
                refine lv_aload_n hx hb dL_isSeat_272 rfl (lv_at hl 9 rfl) ?_
                refine lv_iload hx hb dL_isSeat_273 (lv_at hl 12 rfl) ?_
                refine wy_iald hx hb hK hw.2.1.1 hR.2.1 (k) e5 (by omega) (by omega) dL_isSeat_275 ?_
                refine lv_goto (tgt := 308) hx hb dL_isSeat_276 (by decide) ?_
                refine wq_iast hx hb hK hw hR.2.1 (k) e5 (by omega) (by omega) dL_isSeat_308 (fun H locs fa_20 hc_21 hn_22 hw => ?_)
                obtain ⟨v_23, hv_23⟩ : ∃ y, y = upd v (k) (v k) := ⟨_, rfl⟩
                rw [← hv_23] at hc_21
                have hc_24 := wy_c.ne2 hR.1 hn_22 hne.1
                have hc_25 := wy_c.ne2 hR.2.2.1 hn_22 (Ne.symm hne.2.2.2.2.1)
                have hc_26 := wy_c.ne2 hR.2.2.2.1 hn_22 (Ne.symm hne.2.2.2.2.2.1)
                have hc_27 := wy_c.ne2 hR.2.2.2.2.1 hn_22 (Ne.symm hne.2.2.2.2.2.2.1)
                refine lv_aload_n hx hb dL_isSeat_309 rfl (lv_at hl 7 rfl) ?_
                refine lv_iload hx hb dL_isSeat_310 (lv_at hl 11 rfl) ?_
                refine lv_iload hx hb dL_isSeat_312 (lv_at hl 12 rfl) ?_
                refine lv_iload hx hb dL_isSeat_314 (lv_at hl 13 rfl) ?_
                refine lv_iconst (v := 0) hx hb dL_isSeat_316 (by decide) ?_
                refine lv_iconst (v := 0) hx hb dL_isSeat_317 (by decide) ?_
                have hix_29 : ix p5 = k := by rw [e5]; exact ix_nI (by omega)
                have hix_30 : ix p6 = j := by rw [e6]; exact ix_nI (by omega)
                have hC_28 : rdC n p5 p6 (lvB (rr (ix p5)) (ix p6)) = 0 := by rw [hix_29, hix_30]; exact rdC_ok (okN_of e5 (by omega) (by omega)) (okN_of (n := 10) e6 (by omega) (by omega)) hcan
                refine wq_call0 (vx_runSX (As := [.ref ox, .int 5, .int p5, .int p6, .int 0, .int (bI false)]) (rest := []) ⟨hx, hb, hml, hown, hts⟩ (m_L_does_leave l hnt (fa := fa_20) hq (p5) (p6) (0) (false)) (vx_cwSW 6 hts gL_isSeat_L_does rfl rfl rfl (by decide +kernel) ⟨Nat.le_of_ble_eq_true rfl, Nat.le_of_ble_eq_true rfl⟩) (wq_pre0 hK hE hZ hN hw hA) rfl rfl hl.1 rfl (lv_room (Nat.le_of_ble_eq_true rfl)) dL_isSeat_318 ⟨(show 0 + 4 ≤ 4 by omega), (show 0 + 24 ≤ 24 by omega)⟩) hw hA (fun r_28 L_28 f_28 fx_28 H locs hp hw => ?_)
                obtain ⟨er, ra, ar, hq⟩ := wd_ok hp hC_28
                simp only [hix_29, hix_30] at er hq
                subst er
                obtain ⟨rr_31, hrr_31⟩ : ∃ y : Nat → wr_V, y = va_up rr (k) (vOut (rr (k)) (j)) := ⟨_, rfl⟩
                rw [← hrr_31] at hq
                refine lv_iload hx hb dL_isSeat_321 (lv_at hl 0 rfl) ?_
                refine lv_icmp_ne (tgt := 330) hx hb dL_isSeat_323 (by decide) (fun z => absurd ((rfl : rch (rr (k)) (j) = rch (rr k) j)) z) (fun _ => ?_)
                refine lv_iconst (v := 1) hx hb dL_isSeat_326 (by decide) ?_
                refine lv_goto (tgt := 331) hx hb dL_isSeat_327 (by decide) ?_
                refine lv_istore (lv' := [(14, .int 1), (13, .int (rch (rr k) j)), (12, .int y_16), (11, .int (rch (rr k) j)), (10, .int x_14), (9, .int y_9), (8, .int y_7), (7, .int (mks (rsd (rr k)))), (0, .ref ox), (1, .ref ad), (2, .ref av), (3, .ref ag), (4, .int 5), (5, .int p5), (6, .int p6)]) hx hb dL_isSeat_331 hl (by decide) rfl (fun ls hl => ?_)
                refine lv_iload hx hb dL_isSeat_333 (lv_at hl 0 rfl) ?_
                refine lv_if_eq (tgt := 403) hx hb dL_isSeat_335 (by decide) (fun z => absurd z (by decide)) (fun _ => ?_)
                refine lv_aload_n hx hb dL_isSeat_338 rfl (lv_at hl 8 rfl) ?_
                refine lv_iload hx hb dL_isSeat_339 (lv_at hl 13 rfl) ?_
                refine lv_iload hx hb dL_isSeat_341 (lv_at hl 14 rfl) ?_
                refine vp_callSi (W.runV (As := [.int p5, .int p6]) (rest := []) ⟨hx, hb, hml, hown, hts⟩ (r_X1_charge l hq (p5) (p6) (k) (j) (by omega) (by omega) e5 e6) (cwV 2 hts gL_isSeat_X1_charge rfl rfl rfl (by decide +kernel) ⟨Nat.le_of_ble_eq_true rfl, Nat.le_of_ble_eq_true rfl⟩) (wy_pVR hK hw.1.1 hq.1 rfl) rfl rfl hl.1 rfl (lv_room (Nat.le_of_ble_eq_true rfl)) dL_isSeat_343 ⟨(show 0 + 4 + 0 ≤ 4 by omega), (show 0 + 24 + 0 ≤ 24 by omega)⟩) (fun r_32 er_32 => ?_)
                subst er_32
                refine lv_iload hx hb dL_isSeat_346 (lv_at hl 3 rfl) ?_
                refine lv_iload hx hb dL_isSeat_348 (lv_at hl 2 rfl) ?_
                refine lv_if_eq (tgt := 364) hx hb dL_isSeat_350 (by decide) (fun c_33 => ?_) (fun c_33 => ?_)
                · have bc_33 : (!lvB (rr k) j) = false := bI_0 (hy_16.symm.trans c_33)
                  exact absurd (bc_19.symm.trans bc_33) (by decide)
                · have bc_33 : (!lvB (rr k) j) = true := bI_1 (fun z => c_33 (hy_16.trans z))
                  refine lv_iload hx hb dL_isSeat_353 (lv_at hl 12 rfl) ?_
                  refine lv_iconst (v := 3) hx hb dL_isSeat_355 (by decide) ?_
                  refine lv_icmp_ne (tgt := 364) hx hb dL_isSeat_356 (by decide) (fun _ => ?_) (fun z => absurd z (by decide))
                  refine lv_iconst (v := 0) hx hb dL_isSeat_364 (by decide) ?_
                  refine lv_iadd hx hb dL_isSeat_365 ?_
                  refine lv_topi (fun x_34 ex_34 => ?_)
                  refine lv_icmp_ne (tgt := 403) hx hb dL_isSeat_366 (by decide) (fun z => absurd ((by rw [ex_34, Int32.add_zero, hrr_31, va_up_self]; rfl : rch (rr_31 k) j = x_34)) z) (fun _ => ?_)
                  refine lv_iload hx hb dL_isSeat_369 (lv_at hl 2 rfl) ?_
                  refine lv_if_eq (tgt := 399) hx hb dL_isSeat_371 (by decide) (fun c_35 => ?_) (fun c_35 => ?_)
                  · have bc_35 : (!lvB (rr k) j) = false := bI_0 (hy_16.symm.trans c_35)
                    exact absurd (bc_33.symm.trans bc_35) (by decide)
                  · have bc_35 : (!lvB (rr k) j) = true := bI_1 (fun z => c_35 (hy_16.trans z))
                    refine lv_aload_n hx hb dL_isSeat_374 rfl (lv_at hl 8 rfl) ?_
                    refine lv_iload hx hb dL_isSeat_375 (lv_at hl 13 rfl) ?_
                    refine vp_callSi (W.runV (As := [.int p5]) (rest := []) ⟨hx, hb, hml, hown, hts⟩ (r_X1_aboard l hq (p5) (k) (by omega) e5) (cwV 1 hts gL_isSeat_X1_aboard rfl rfl rfl (by decide +kernel) ⟨Nat.le_of_ble_eq_true rfl, Nat.le_of_ble_eq_true rfl⟩) (wy_pVR hK hw.1.1 hq.1 rfl) rfl rfl hl.1 rfl (lv_room (Nat.le_of_ble_eq_true rfl)) dL_isSeat_377 ⟨(show 0 + 4 + 0 ≤ 4 by omega), (show 0 + 24 + 0 ≤ 24 by omega)⟩) (fun r_36 er_36 => ?_)
                    subst er_36
                    refine lv_iload hx hb dL_isSeat_380 (lv_at hl 14 rfl) ?_
                    refine lv_ishr hx hb dL_isSeat_382 ?_
                    refine lv_topi (fun x_37 ex_37 => ?_)
                    refine lv_iconst (v := 1) hx hb dL_isSeat_383 (by decide) ?_
                    refine lv_iand hx hb dL_isSeat_384 ?_
                    refine lv_topi (fun x_38 ex_38 => ?_)
                    refine lv_iload hx hb dL_isSeat_385 (lv_at hl 12 rfl) ?_
                    refine lv_iconst (v := 4) hx hb dL_isSeat_387 (by decide) ?_
                    refine lv_icmp_ne (tgt := 395) hx hb dL_isSeat_388 (by decide) (fun _ => ?_) (fun z => absurd z (by decide))
                    refine lv_iconst (v := 0) hx hb dL_isSeat_395 (by decide) ?_
                    refine lv_icmp_ne (tgt := 403) hx hb dL_isSeat_396 (by decide) (fun z => absurd ((by rw [ex_38, ex_37, e6, P_bit _ (by omega), hrr_31, va_up_self]; exact (by show bI (va_up (rsd (rr k)) j false j) = 0; rw [va_up_self]; rfl) : x_38 = 0)) z) (fun _ => ?_)
                    refine lv_iconst (v := 1) hx hb dL_isSeat_399 (by decide) ?_
                    refine lv_goto (tgt := 404) hx hb dL_isSeat_400 (by decide) ?_
                    exact wq_zret (b := true) rfl hx hb hr hlocks dL_isSeat_404 hw (show 0 + 4 ≤ 4 by omega) (show 0 + 24 ≤ 24 by omega) ⟨rfl, ra, ar, n, km, mn, wk, po, rr_31, d, v_23, o, fr, g, hq, ⟨hc_24, hc_21, hc_25, hc_26, hc_27, hne⟩, (by rw [hrr_31]; exact J_out hJ (by omega) (by omega)), (by rw [hrr_31]; exact B_out hB (by omega) hn20 hv_23)⟩
            · have bc_18 : (!lvB (rr k) j) = false := bI_0 (hy_16.symm.trans c_18)
              have hcan : lvB (rr k) j = true := by simpa using bc_18
              refine lv_bipush (v := (-10)) hx hb dL_isSeat_200 (by decide) ?_
              refine lv_goto (tgt := 256) hx hb dL_isSeat_202 (by decide) ?_
              refine lv_istore (lv' := [(13, .int (-10)), (12, .int y_16), (11, .int (rch (rr k) j)), (10, .int x_14), (9, .int y_9), (8, .int y_7), (7, .int (mks (rsd (rr k)))), (0, .ref ox), (1, .ref ad), (2, .ref av), (3, .ref ag), (4, .int 5), (5, .int p5), (6, .int p6)]) hx hb dL_isSeat_256 hl (by decide) rfl (fun ls hl => ?_)
              refine lv_aload_n hx hb dL_isSeat_258 rfl (lv_at hl 9 rfl) ?_
              refine lv_iload hx hb dL_isSeat_259 (lv_at hl 12 rfl) ?_
              refine lv_iload hx hb dL_isSeat_261 (lv_at hl 1 rfl) ?_
              refine lv_if_eq (tgt := 272) hx hb dL_isSeat_263 (by decide) (fun c_39 => ?_) (fun c_39 => ?_)
              · have bc_39 : (!lvB (rr k) j) = false := bI_0 (hy_16.symm.trans c_39)
                refine lv_aload_n hx hb dL_isSeat_272 rfl (lv_at hl 9 rfl) ?_
                refine lv_iload hx hb dL_isSeat_273 (lv_at hl 12 rfl) ?_
                refine wy_iald hx hb hK hw.2.1.1 hR.2.1 (k) e5 (by omega) (by omega) dL_isSeat_275 ?_
                refine lv_goto (tgt := 308) hx hb dL_isSeat_276 (by decide) ?_
                refine wq_iast hx hb hK hw hR.2.1 (k) e5 (by omega) (by omega) dL_isSeat_308 (fun H locs fa_40 hc_41 hn_42 hw => ?_)
                obtain ⟨v_43, hv_43⟩ : ∃ y, y = upd v (k) (v k) := ⟨_, rfl⟩
                rw [← hv_43] at hc_41
                have hc_44 := wy_c.ne2 hR.1 hn_42 hne.1
                have hc_45 := wy_c.ne2 hR.2.2.1 hn_42 (Ne.symm hne.2.2.2.2.1)
                have hc_46 := wy_c.ne2 hR.2.2.2.1 hn_42 (Ne.symm hne.2.2.2.2.2.1)
                have hc_47 := wy_c.ne2 hR.2.2.2.2.1 hn_42 (Ne.symm hne.2.2.2.2.2.2.1)
                refine lv_aload_n hx hb dL_isSeat_309 rfl (lv_at hl 7 rfl) ?_
                refine lv_iload hx hb dL_isSeat_310 (lv_at hl 11 rfl) ?_
                refine lv_iload hx hb dL_isSeat_312 (lv_at hl 12 rfl) ?_
                refine lv_iload hx hb dL_isSeat_314 (lv_at hl 13 rfl) ?_
                refine lv_iconst (v := 0) hx hb dL_isSeat_316 (by decide) ?_
                refine lv_iconst (v := 0) hx hb dL_isSeat_317 (by decide) ?_
                have hix_49 : ix p5 = k := by rw [e5]; exact ix_nI (by omega)
                have hix_50 : ix p6 = j := by rw [e6]; exact ix_nI (by omega)
                have hC_48 : rdC n p5 p6 (lvB (rr (ix p5)) (ix p6)) = 2 := by rw [hix_49, hix_50]; exact rdC_no (okN_of e5 (by omega) (by omega)) (okN_of (n := 10) e6 (by omega) (by omega)) hcan
                refine wq_call0 (vx_runSX (As := [.ref ox, .int 5, .int p5, .int p6, .int 0, .int (bI false)]) (rest := []) ⟨hx, hb, hml, hown, hts⟩ (m_L_does_leave l hnt (fa := fa_40) hq (p5) (p6) (0) (false)) (vx_cwSW 6 hts gL_isSeat_L_does rfl rfl rfl (by decide +kernel) ⟨Nat.le_of_ble_eq_true rfl, Nat.le_of_ble_eq_true rfl⟩) (wq_pre0 hK hE hZ hN hw hA) rfl rfl hl.1 rfl (lv_room (Nat.le_of_ble_eq_true rfl)) dL_isSeat_318 ⟨(show 0 + 4 ≤ 4 by omega), (show 0 + 24 ≤ 24 by omega)⟩) hw hA (fun r_48 L_48 f_48 fx_48 H locs hp hw => ?_)
                obtain ⟨er, hq⟩ := wd_er hp (by rw [hC_48]; decide) hq
                have er : r_48 = .int (-10) := er.trans (congrArg Value.int (by rw [hC_48]; decide))
                subst er
                refine lv_iload hx hb dL_isSeat_321 (lv_at hl 0 rfl) ?_
                refine lv_icmp_ne (tgt := 330) hx hb dL_isSeat_323 (by decide) (fun z => absurd z (by decide)) (fun _ => ?_)
                refine lv_iconst (v := 1) hx hb dL_isSeat_326 (by decide) ?_
                refine lv_goto (tgt := 331) hx hb dL_isSeat_327 (by decide) ?_
                refine lv_istore (lv' := [(14, .int 1), (13, .int (-10)), (12, .int y_16), (11, .int (rch (rr k) j)), (10, .int x_14), (9, .int y_9), (8, .int y_7), (7, .int (mks (rsd (rr k)))), (0, .ref ox), (1, .ref ad), (2, .ref av), (3, .ref ag), (4, .int 5), (5, .int p5), (6, .int p6)]) hx hb dL_isSeat_331 hl (by decide) rfl (fun ls hl => ?_)
                refine lv_iload hx hb dL_isSeat_333 (lv_at hl 0 rfl) ?_
                refine lv_if_eq (tgt := 403) hx hb dL_isSeat_335 (by decide) (fun z => absurd z (by decide)) (fun _ => ?_)
                refine lv_aload_n hx hb dL_isSeat_338 rfl (lv_at hl 8 rfl) ?_
                refine lv_iload hx hb dL_isSeat_339 (lv_at hl 13 rfl) ?_
                refine lv_iload hx hb dL_isSeat_341 (lv_at hl 14 rfl) ?_
                refine vp_callSi (W.runV (As := [.int p5, .int p6]) (rest := []) ⟨hx, hb, hml, hown, hts⟩ (r_X1_charge l hq (p5) (p6) (k) (j) (by omega) (by omega) e5 e6) (cwV 2 hts gL_isSeat_X1_charge rfl rfl rfl (by decide +kernel) ⟨Nat.le_of_ble_eq_true rfl, Nat.le_of_ble_eq_true rfl⟩) (wy_pVR hK hw.1.1 hq.1 rfl) rfl rfl hl.1 rfl (lv_room (Nat.le_of_ble_eq_true rfl)) dL_isSeat_343 ⟨(show 0 + 4 + 0 ≤ 4 by omega), (show 0 + 24 + 0 ≤ 24 by omega)⟩) (fun r_51 er_51 => ?_)
                subst er_51
                refine lv_iload hx hb dL_isSeat_346 (lv_at hl 3 rfl) ?_
                refine lv_iload hx hb dL_isSeat_348 (lv_at hl 2 rfl) ?_
                refine lv_if_eq (tgt := 364) hx hb dL_isSeat_350 (by decide) (fun c_52 => ?_) (fun c_52 => ?_)
                · have bc_52 : (!lvB (rr k) j) = false := bI_0 (hy_16.symm.trans c_52)
                  refine lv_iconst (v := 0) hx hb dL_isSeat_364 (by decide) ?_
                  refine lv_iadd hx hb dL_isSeat_365 ?_
                  refine lv_topi (fun x_53 ex_53 => ?_)
                  refine lv_icmp_ne (tgt := 403) hx hb dL_isSeat_366 (by decide) (fun z => absurd ((by rw [ex_53, Int32.add_zero] : rch (rr k) j = x_53)) z) (fun _ => ?_)
                  refine lv_iload hx hb dL_isSeat_369 (lv_at hl 2 rfl) ?_
                  refine lv_if_eq (tgt := 399) hx hb dL_isSeat_371 (by decide) (fun c_54 => ?_) (fun c_54 => ?_)
                  · have bc_54 : (!lvB (rr k) j) = false := bI_0 (hy_16.symm.trans c_54)
                    refine lv_iconst (v := 1) hx hb dL_isSeat_399 (by decide) ?_
                    refine lv_goto (tgt := 404) hx hb dL_isSeat_400 (by decide) ?_
                    exact wq_zret (b := true) rfl hx hb hr hlocks dL_isSeat_404 hw (show 0 + 4 ≤ 4 by omega) (show 0 + 24 ≤ 24 by omega) ⟨rfl, ra, ar, n, km, mn, wk, po, rr, d, v_43, o, fr, g, hq, ⟨hc_44, hc_41, hc_45, hc_46, hc_47, hne⟩, hJ.up, hB.noop hv_43⟩
                  · have bc_54 : (!lvB (rr k) j) = true := bI_1 (fun z => c_54 (hy_16.trans z))
                    exact absurd (bc_52.symm.trans bc_54) (by decide)
                · have bc_52 : (!lvB (rr k) j) = true := bI_1 (fun z => c_52 (hy_16.trans z))
                  exact absurd (bc_39.symm.trans bc_52) (by decide)
              · have bc_39 : (!lvB (rr k) j) = true := bI_1 (fun z => c_39 (hy_16.trans z))
                exact absurd (bc_18.symm.trans bc_39) (by decide)
          refine lv_aload_n hx hb dL_isSeat_111 rfl (lv_at hl 6 rfl) ?_
          refine lv_bipush (v := 20) hx hb dL_isSeat_112 (by decide) ?_
          refine lv_iload hx hb dL_isSeat_114 (lv_at hl 10 rfl) ?_
          refine lv_iadd hx hb dL_isSeat_116 ?_
          refine lv_topi (fun x_55 ex_55 => ?_)
          have nx_55 : x_55 = nI (20 + k) := ex_55.trans ((congr (congrArg (fun u v : Int32 => u + v) (rfl : (20 : Int32) = nI 20)) e5).trans (nI_add _ _))
          refine wy_iald hx hb hK hw.2.1.1 hR.1 (20 + k) nx_55 (by omega) (by omega) dL_isSeat_117 ?_
          refine lv_if_ne (tgt := 192) hx hb dL_isSeat_118 (by decide) (fun c_56 => ?_) (fun c_56 => ?_)
          · have bc_56 : (rfi (rr k)) = true := bI_1 (fun z => c_56 ((hB.2.1 (k) (by omega)).trans z))
            refine lv_iconst (v := 0) hx hb dL_isSeat_192 (by decide) ?_
            exact JN_17 _ (by simp [lvB, bI, bc_56]) ls (lv_sub hl [0, 1, 2, 3, 4, 5, 6, 7, 8, 9, 10, 11] rfl)
          · have bc_56 : (rfi (rr k)) = false := bI_0 ((hB.2.1 (k) (by omega)).symm.trans c_56)
            refine lv_iload hx hb dL_isSeat_121 (lv_at hl 9 rfl) ?_
            refine lv_iconst (v := 2) hx hb dL_isSeat_123 (by decide) ?_
            refine lv_icmp_ne (tgt := 145) hx hb dL_isSeat_124 (by decide) (fun _ => ?_) (fun z => absurd z (by decide))
            refine lv_iload hx hb dL_isSeat_145 (lv_at hl 9 rfl) ?_
            refine lv_iconst (v := 3) hx hb dL_isSeat_147 (by decide) ?_
            refine lv_icmp_ne (tgt := 159) hx hb dL_isSeat_148 (by decide) (fun _ => ?_) (fun z => absurd z (by decide))
            refine lv_iload hx hb dL_isSeat_159 (lv_at hl 9 rfl) ?_
            refine lv_iconst (v := 4) hx hb dL_isSeat_161 (by decide) ?_
            refine lv_icmp_ne (tgt := 183) hx hb dL_isSeat_162 (by decide) (fun _ => ?_) (fun z => absurd z (by decide))
            refine lv_iload hx hb dL_isSeat_183 (lv_at hl 3 rfl) ?_
            refine lv_if_eq (tgt := 192) hx hb dL_isSeat_185 (by decide) (fun c_57 => ?_) (fun c_57 => ?_)
            · have bc_57 : (rsd (rr k) j) = false := bI_0 (hy_7.symm.trans c_57)
              refine lv_iconst (v := 0) hx hb dL_isSeat_192 (by decide) ?_
              exact JN_17 _ (by simp [lvB, bI, bc_56, bc_57]) ls (lv_sub hl [0, 1, 2, 3, 4, 5, 6, 7, 8, 9, 10, 11] rfl)
            · have bc_57 : (rsd (rr k) j) = true := bI_1 (fun z => c_57 (hy_7.trans z))
              refine lv_iconst (v := 1) hx hb dL_isSeat_188 (by decide) ?_
              refine lv_goto (tgt := 193) hx hb dL_isSeat_189 (by decide) ?_
              exact JN_17 _ (by simp [lvB, bI, bc_56, bc_57]) ls (lv_sub hl [0, 1, 2, 3, 4, 5, 6, 7, 8, 9, 10, 11] rfl)
        refine lv_aload_n hx hb dL_isSeat_64 rfl (lv_at hl 4 rfl) ?_
        refine lv_iload hx hb dL_isSeat_65 (lv_at hl 7 rfl) ?_
        refine wy_iald hx hb hK hw.2.1.1 hR.2.1 (k) e5 (by omega) (by omega) dL_isSeat_67 ?_
        refine lv_iload hx hb dL_isSeat_68 (lv_at hl 8 rfl) ?_
        refine lv_ishr hx hb dL_isSeat_70 ?_
        refine lv_topi (fun x_58 ex_58 => ?_)
        refine lv_iconst (v := 1) hx hb dL_isSeat_71 (by decide) ?_
        refine lv_iand hx hb dL_isSeat_72 ?_
        refine lv_topi (fun x_59 ex_59 => ?_)
        have hbt_60 : x_59 = bI (bkv (rr k) j) := by rw [ex_59, ex_58, e6]; exact (by rw [hB.vk (by omega)]; exact P_vbit _ (by omega))
        refine lv_iconst (v := 1) hx hb dL_isSeat_73 (by decide) ?_
        refine lv_icmp_ne (tgt := 81) hx hb dL_isSeat_74 (by decide) (fun c_61 => ?_) (fun c_61 => ?_)
        · have bc_61 : (bkv (rr k) j) = false := bI_n1 (fun z => c_61 (hbt_60.trans z))
          refine lv_iconst (v := 0) hx hb dL_isSeat_81 (by decide) ?_
          exact JN_10 _ (by rw [bc_61]; rfl) ls (lv_sub hl [0, 1, 2, 3, 4, 5, 6, 7, 8] rfl)
        · have bc_61 : (bkv (rr k) j) = true := bI_e1 (hbt_60.symm.trans c_61)
          refine lv_iconst (v := 1) hx hb dL_isSeat_77 (by decide) ?_
          refine lv_goto (tgt := 82) hx hb dL_isSeat_78 (by decide) ?_
          exact JN_10 _ (by rw [bc_61]; rfl) ls (lv_sub hl [0, 1, 2, 3, 4, 5, 6, 7, 8] rfl)
      refine lv_iload hx hb dL_isSeat_46 (lv_at hl 0 rfl) ?_
      refine lv_iload hx hb dL_isSeat_48 (lv_at hl 7 rfl) ?_
      refine lv_ishr hx hb dL_isSeat_50 ?_
      refine lv_topi (fun x_62 ex_62 => ?_)
      refine lv_iconst (v := 1) hx hb dL_isSeat_51 (by decide) ?_
      refine lv_iand hx hb dL_isSeat_52 ?_
      refine lv_topi (fun x_63 ex_63 => ?_)
      have hbt_64 : x_63 = bI (rsd (rr k) j) := by rw [ex_63, ex_62, e6]; exact P_bit _ (by omega)
      refine lv_iconst (v := 1) hx hb dL_isSeat_53 (by decide) ?_
      refine lv_icmp_ne (tgt := 61) hx hb dL_isSeat_54 (by decide) (fun c_65 => ?_) (fun c_65 => ?_)
      · have bc_65 : (rsd (rr k) j) = false := bI_n1 (fun z => c_65 (hbt_64.trans z))
        refine lv_iconst (v := 0) hx hb dL_isSeat_61 (by decide) ?_
        exact JN_8 _ (by rw [bc_65]; rfl) ls (lv_sub hl [0, 1, 2, 3, 4, 5, 6, 7] rfl)
      · have bc_65 : (rsd (rr k) j) = true := bI_e1 (hbt_64.symm.trans c_65)
        refine lv_iconst (v := 1) hx hb dL_isSeat_57 (by decide) ?_
        refine lv_goto (tgt := 62) hx hb dL_isSeat_58 (by decide) ?_
        exact JN_8 _ (by rw [bc_65]; rfl) ls (lv_sub hl [0, 1, 2, 3, 4, 5, 6, 7] rfl)
    · have nc_5 : ¬ (j ≤ 9) := fun z => c_5 ((wy_le e6 (rfl : (9 : Int32) = nI 9) (by omega) (by decide)).mpr z)
      refine lv_aload_n hx hb dL_isSeat_15 rfl (lv_at hl 0 rfl) ?_
      refine lv_iload hx hb dL_isSeat_16 (lv_at hl 4 rfl) ?_
      refine lv_iload hx hb dL_isSeat_18 (lv_at hl 5 rfl) ?_
      refine lv_iload hx hb dL_isSeat_20 (lv_at hl 6 rfl) ?_
      refine lv_iconst (v := 0) hx hb dL_isSeat_22 (by decide) ?_
      refine lv_iconst (v := 0) hx hb dL_isSeat_23 (by decide) ?_
      have hix_67 : ix p5 = k := by rw [e5]; exact ix_nI (by omega)
      have hix_68 : ix p6 = j := by rw [e6]; exact ix_nI (by omega)
      have hC_66 : rdC n p5 p6 (lvB (rr (ix p5)) (ix p6)) = 1 := by exact rdC_o2 (by rw [e6]; exact okN_out (n := 10) (by omega) (by omega))
      refine wq_call0 (vx_runSX (As := [.ref ox, .int 5, .int p5, .int p6, .int 0, .int (bI false)]) (rest := []) ⟨hx, hb, hml, hown, hts⟩ (m_L_does_leave l hnt (fa := fa) hq (p5) (p6) (0) (false)) (vx_cwSW 6 hts gL_isSeat_L_does rfl rfl rfl (by decide +kernel) ⟨Nat.le_of_ble_eq_true rfl, Nat.le_of_ble_eq_true rfl⟩) (wq_pre0 hK hE hZ hN hw hA) rfl rfl hl.1 rfl (lv_room (Nat.le_of_ble_eq_true rfl)) dL_isSeat_24 ⟨(show 0 + 4 ≤ 4 by omega), (show 0 + 24 ≤ 24 by omega)⟩) hw hA (fun r_66 L_66 f_66 fx_66 H locs hp hw => ?_)
      obtain ⟨er, hq⟩ := wd_er hp (by rw [hC_66]; decide) hq
      have er : r_66 = .int (-30) := er.trans (congrArg Value.int (by rw [hC_66]; decide))
      subst er
      refine lv_bipush (v := (-30)) hx hb dL_isSeat_27 (by decide) ?_
      refine lv_icmp_ne (tgt := 36) hx hb dL_isSeat_29 (by decide) (fun z => absurd z (by decide)) (fun _ => ?_)
      refine lv_iconst (v := 1) hx hb dL_isSeat_32 (by decide) ?_
      refine lv_goto (tgt := 37) hx hb dL_isSeat_33 (by decide) ?_
      exact wq_zret (b := true) rfl hx hb hr hlocks dL_isSeat_37 hw (show 0 + 4 ≤ 4 by omega) (show 0 + 24 ≤ 24 by omega) ⟨rfl, ra, ar, n, km, mn, wk, po, rr, d, v, o, fr, g, hq, ⟨hR.1, hR.2.1, hR.2.2.1, hR.2.2.2.1, hR.2.2.2.2.1, hne⟩, hJ.up, hB⟩
