set_option maxHeartbeats 4000000 in
set_option maxRecDepth 100000 in
theorem m_L_isDone (l : Launch) (hnt : l.stackTraces = false) {G : wy_G} {L0 La : List Nat} {f0 fa : Nat → va_E} {sz : Nat} {ox lo : Nat} {ra ar : Nat → Nat} {t n : Nat} {km mn : Int32} {wk : Nat} {po : Nat → Int32} {rr : Nat → wr_V} {ad av ao af ag : Nat} {d v o fr g : Nat → Int32} (hq : wx_S G L0 f0 ox lo ra ar n km mn wk po rr) (hR : wR G La fa ad av ao af ag d v o fr g) (hJ : wJ t n km mn wk po rr) (hB : wB n km mn wk rr d v o fr g) (ht : t ≤ 80) {b N : Nat} {xs : Nat → Int32} (hNN : N ≤ 260) (p2 : Int32) (a2 : Nat) (ha2 : a2 ≤ 300) (e2 : p2 = nI a2) : Met l yL_isDone wsL_isDone ({ frames := 11, cells := 8, slots := 100, locals := 257 } : Room) (va_Pc [.ref ox, .ref b, .int p2, .ref ad, .ref av, .ref ao, .ref af, .ref ag] (wq_P2 G L0 f0 La fa sz b N xs)) (wq_Q G L0 La sz (fun r1 L1 f1 fa1 => r1 = .int (bI true) ∧ wZ G ox lo ad av ao af ag La (t + 1) L1 f1 fa1)) 8 100 (wy_A (L0 ++ La) sz) := by
  refine Met.ofW (cc := cL_isDone) (maxL := 16) (ret := (some .boolean)) (by decide) rfl ?_
  intro p e s m args below meth c s₁ B hml hv
  obtain ⟨rfl, hP, hX⟩ := hv
  obtain ⟨hw, hK, hA⟩ := wq_start hP
  obtain ⟨hv, -, -, hE, hZ, hN⟩ := hP
  have hsz := hv.1
  subst hsz
  have hx := B.exec
  have hb := B.bytes
  have hr := B.returns
  have hts := atoms_spec (ws := wsL_isDone) B.pre
  have hown : s.vm.findClass RL = some m.cls := findClass_of_methodNamed B.named
  have hlocks := B.notSynchronized
  have hn20 : n ≤ 20 := hJ.2.1
  have hwk20 : wk ≤ 20 := hJ.2.2.1
  have hne := hR.2.2.2.2.2
  have hl := lv_entry ([.ref ox, .ref b, .int p2, .ref ad, .ref av, .ref ao, .ref af, .ref ag]) (n := 16) (Nat.le_of_ble_eq_true rfl)
  rw [lg_entry_eq]
  generalize (lg_sl ([.ref ox, .ref b, .int p2, .ref ad, .ref av, .ref ao, .ref af, .ref ag]) ++ List.replicate (16 - (lg_sl ([.ref ox, .ref b, .int p2, .ref ad, .ref av, .ref ao, .ref af, .ref ag])).length) Slot.unset).toArray = ls at hl ⊢
  have hl : lv_has ls 16 [(0, .ref ox), (1, .ref b), (2, .int p2), (3, .ref ad), (4, .ref av), (5, .ref ao), (6, .ref af), (7, .ref ag)] := hl
  refine lv_aload_n hx hb dL_isDone_0 rfl (lv_at hl 1 rfl) ?_
  refine lv_iload_n hx hb dL_isDone_1 rfl (lv_at hl 2 rfl) ?_
  refine lv_bipush (v := 40) hx hb dL_isDone_2 (by decide) ?_
  refine vp_callSi (W.runS (As := [.ref b, .int p2, .int 40]) (rest := []) ⟨hx, hb, hml, hown, hts⟩ (m_L_part l hNN (p2) (40) (a2) (40) (by omega) (by decide) (by decide) e2 (rfl : (40 : Int32) = nI 40)) (va_cwS 3 hts gL_isDone_L_part rfl rfl rfl (by decide +kernel) ⟨Nat.le_of_ble_eq_true rfl, Nat.le_of_ble_eq_true rfl⟩) (wp_pre (A := fun _ => False) (locs := []) hX.1 hX.2 (fun z => z) va_S.rf) rfl rfl hl.1 rfl (lv_room (Nat.le_of_ble_eq_true rfl)) dL_isDone_4 ⟨(show 0 + 0 ≤ 8 by omega), (show 0 + 0 ≤ 100 by omega)⟩) (fun r_1 er_1 => ?_)
  obtain ⟨w8, hw8, nr_1⟩ := er_1
  refine lv_istore (lv' := [(8, .int r_1), (0, .ref ox), (1, .ref b), (2, .int p2), (3, .ref ad), (4, .ref av), (5, .ref ao), (6, .ref af), (7, .ref ag)]) hx hb dL_isDone_7 hl (by decide) rfl (fun ls hl => ?_)
  refine lv_aload_n hx hb dL_isDone_9 rfl (lv_at hl 2 rfl) ?_
  refine lv_iload_n hx hb dL_isDone_10 rfl (lv_at hl 3 rfl) ?_
  refine lv_iconst (v := 1) hx hb dL_isDone_11 (by decide) ?_
  refine lv_iadd hx hb dL_isDone_12 ?_
  refine lv_topi (fun x_2 ex_2 => ?_)
  have nx_2 : x_2 = nI (a2 + 1) := ex_2.trans ((congr (congrArg (fun u v : Int32 => u + v) e2) (rfl : (1 : Int32) = nI 1)).trans (nI_add _ _))
  refine lv_sipush (v := 6000) hx hb dL_isDone_13 (by decide) ?_
  refine vp_callSi (W.runS (As := [.ref b, .int x_2, .int 6000]) (rest := []) ⟨hx, hb, hml, hown, hts⟩ (m_L_part l hNN (x_2) (6000) (a2 + 1) (6000) (by omega) (by decide) (by decide) nx_2 (rfl : (6000 : Int32) = nI 6000)) (va_cwS 3 hts gL_isDone_L_part rfl rfl rfl (by decide +kernel) ⟨Nat.le_of_ble_eq_true rfl, Nat.le_of_ble_eq_true rfl⟩) (wp_pre (A := fun _ => False) (locs := []) hX.1 hX.2 (fun z => z) va_S.rf) rfl rfl hl.1 rfl (lv_room (Nat.le_of_ble_eq_true rfl)) dL_isDone_16 ⟨(show 0 + 0 ≤ 8 by omega), (show 0 + 0 ≤ 100 by omega)⟩) (fun r_3 er_3 => ?_)
  obtain ⟨w9, hw9, nr_3⟩ := er_3
  refine lv_istore (lv' := [(9, .int r_3), (8, .int r_1), (0, .ref ox), (1, .ref b), (2, .int p2), (3, .ref ad), (4, .ref av), (5, .ref ao), (6, .ref af), (7, .ref ag)]) hx hb dL_isDone_19 hl (by decide) rfl (fun ls hl => ?_)
  refine lv_aload_n hx hb dL_isDone_21 rfl (lv_at hl 3 rfl) ?_
  refine lv_iload_n hx hb dL_isDone_22 rfl (lv_at hl 4 rfl) ?_
  refine lv_iconst (v := 2) hx hb dL_isDone_23 (by decide) ?_
  refine lv_iadd hx hb dL_isDone_24 ?_
  refine lv_topi (fun x_4 ex_4 => ?_)
  have nx_4 : x_4 = nI (a2 + 2) := ex_4.trans ((congr (congrArg (fun u v : Int32 => u + v) e2) (rfl : (2 : Int32) = nI 2)).trans (nI_add _ _))
  refine lv_sipush (v := 7000) hx hb dL_isDone_25 (by decide) ?_
  refine vp_callSi (W.runS (As := [.ref b, .int x_4, .int 7000]) (rest := []) ⟨hx, hb, hml, hown, hts⟩ (m_L_part l hNN (x_4) (7000) (a2 + 2) (7000) (by omega) (by decide) (by decide) nx_4 (rfl : (7000 : Int32) = nI 7000)) (va_cwS 3 hts gL_isDone_L_part rfl rfl rfl (by decide +kernel) ⟨Nat.le_of_ble_eq_true rfl, Nat.le_of_ble_eq_true rfl⟩) (wp_pre (A := fun _ => False) (locs := []) hX.1 hX.2 (fun z => z) va_S.rf) rfl rfl hl.1 rfl (lv_room (Nat.le_of_ble_eq_true rfl)) dL_isDone_28 ⟨(show 0 + 0 ≤ 8 by omega), (show 0 + 0 ≤ 100 by omega)⟩) (fun r_5 er_5 => ?_)
  obtain ⟨w10, hw10, nr_5⟩ := er_5
  refine lv_istore (lv' := [(10, .int r_5), (9, .int r_3), (8, .int r_1), (0, .ref ox), (1, .ref b), (2, .int p2), (3, .ref ad), (4, .ref av), (5, .ref ao), (6, .ref af), (7, .ref ag)]) hx hb dL_isDone_31 hl (by decide) rfl (fun ls hl => ?_)
  refine lv_aload_n hx hb dL_isDone_33 rfl (lv_at hl 4 rfl) ?_
  refine lv_iload_n hx hb dL_isDone_34 rfl (lv_at hl 5 rfl) ?_
  refine lv_iconst (v := 3) hx hb dL_isDone_35 (by decide) ?_
  refine lv_iadd hx hb dL_isDone_36 ?_
  refine lv_topi (fun x_6 ex_6 => ?_)
  have nx_6 : x_6 = nI (a2 + 3) := ex_6.trans ((congr (congrArg (fun u v : Int32 => u + v) e2) (rfl : (3 : Int32) = nI 3)).trans (nI_add _ _))
  refine lv_sipush (v := 8000) hx hb dL_isDone_37 (by decide) ?_
  refine vp_callSi (W.runS (As := [.ref b, .int x_6, .int 8000]) (rest := []) ⟨hx, hb, hml, hown, hts⟩ (m_L_part l hNN (x_6) (8000) (a2 + 3) (8000) (by omega) (by decide) (by decide) nx_6 (rfl : (8000 : Int32) = nI 8000)) (va_cwS 3 hts gL_isDone_L_part rfl rfl rfl (by decide +kernel) ⟨Nat.le_of_ble_eq_true rfl, Nat.le_of_ble_eq_true rfl⟩) (wp_pre (A := fun _ => False) (locs := []) hX.1 hX.2 (fun z => z) va_S.rf) rfl rfl hl.1 rfl (lv_room (Nat.le_of_ble_eq_true rfl)) dL_isDone_40 ⟨(show 0 + 0 ≤ 8 by omega), (show 0 + 0 ≤ 100 by omega)⟩) (fun r_7 er_7 => ?_)
  obtain ⟨w11, hw11, nr_7⟩ := er_7
  refine lv_istore (lv' := [(11, .int r_7), (10, .int r_5), (9, .int r_3), (8, .int r_1), (0, .ref ox), (1, .ref b), (2, .int p2), (3, .ref ad), (4, .ref av), (5, .ref ao), (6, .ref af), (7, .ref ag)]) hx hb dL_isDone_43 hl (by decide) rfl (fun ls hl => ?_)
  have JN_9 : ∀ (y_8 : Int32), (∃ k9, k9 ≤ n ∧ y_8 = nI k9) → ∀ ls : Array Slot, lv_has ls 16 [(11, .int r_7), (10, .int r_5), (9, .int r_3), (8, .int r_1), (0, .ref ox), (1, .ref b), (2, .int p2), (3, .ref ad), (4, .ref av), (5, .ref ao), (6, .ref af), (7, .ref ag)] → W p l e (headSpec wsL_isDone ({ frames := 11, cells := 8, slots := 100, locals := 257 } : Room)).room s m ([.ref ox, .ref b, .int p2, .ref ad, .ref av, .ref ao, .ref af, .ref ag] : List Value).toArray below meth c s.heap [] (0) (0) (MQ below (wq_Q G L0 La s.heap.size (fun r1 L1 f1 fa1 => r1 = .int (bI true) ∧ wZ G ox lo ad av ao af ag La (t + 1) L1 f1 fa1)) ([.ref ox, .ref b, .int p2, .ref ad, .ref av, .ref ao, .ref af, .ref ag] : List Value).toArray s 8 100 (wy_A (L0 ++ La) s.heap.size)) (F0 m 102 ls [.int y_8]) := by
    intro y_8 hy_8 ls hl
    obtain ⟨k9, hk9, ek9⟩ := hy_8
    refine lv_istore (lv' := [(12, .int y_8), (11, .int r_7), (10, .int r_5), (9, .int r_3), (8, .int r_1), (0, .ref ox), (1, .ref b), (2, .int p2), (3, .ref ad), (4, .ref av), (5, .ref ao), (6, .ref af), (7, .ref ag)]) hx hb dL_isDone_102 hl (by decide) rfl (fun ls hl => ?_)
    refine lv_iload hx hb dL_isDone_104 (lv_at hl 4 rfl) ?_
    refine lv_bipush (v := 6) hx hb dL_isDone_106 (by decide) ?_
    refine lv_icmp_ge (tgt := 288) hx hb dL_isDone_108 (by decide) (fun c_10 => ?_) (fun c_10 => ?_)
    · have nc_10 : 6 ≤ w8 := (wy_ge nr_1 (rfl : (6 : Int32) = nI 6) (by omega) (by decide)).mp c_10
      refine lv_iload hx hb dL_isDone_288 (lv_at hl 4 rfl) ?_
      refine lv_bipush (v := 17) hx hb dL_isDone_290 (by decide) ?_
      refine lv_icmp_ge (tgt := 346) hx hb dL_isDone_292 (by decide) (fun c_11 => ?_) (fun c_11 => ?_)
      · have nc_11 : 17 ≤ w8 := (wy_ge nr_1 (rfl : (17 : Int32) = nI 17) (by omega) (by decide)).mp c_11
        refine lv_iload hx hb dL_isDone_346 (lv_at hl 4 rfl) ?_
        refine lv_bipush (v := 24) hx hb dL_isDone_348 (by decide) ?_
        refine lv_icmp_ge (tgt := 373) hx hb dL_isDone_350 (by decide) (fun c_12 => ?_) (fun c_12 => ?_)
        · have nc_12 : 24 ≤ w8 := (wy_ge nr_1 (rfl : (24 : Int32) = nI 24) (by omega) (by decide)).mp c_12
          refine lv_iload hx hb dL_isDone_373 (lv_at hl 4 rfl) ?_
          refine lv_bipush (v := 28) hx hb dL_isDone_375 (by decide) ?_
          refine lv_icmp_ge (tgt := 392) hx hb dL_isDone_377 (by decide) (fun c_13 => ?_) (fun c_13 => ?_)
          · have nc_13 : 28 ≤ w8 := (wy_ge nr_1 (rfl : (28 : Int32) = nI 28) (by omega) (by decide)).mp c_13
            refine lv_iload hx hb dL_isDone_392 (lv_at hl 4 rfl) ?_
            refine lv_bipush (v := 36) hx hb dL_isDone_394 (by decide) ?_
            refine lv_icmp_ge (tgt := 465) hx hb dL_isDone_396 (by decide) (fun c_14 => ?_) (fun c_14 => ?_)
            · have nc_14 : 36 ≤ w8 := (wy_ge nr_1 (rfl : (36 : Int32) = nI 36) (by omega) (by decide)).mp c_14
              refine lv_iload hx hb dL_isDone_465 (lv_at hl 4 rfl) ?_
              refine lv_bipush (v := 38) hx hb dL_isDone_467 (by decide) ?_
              refine lv_icmp_ge (tgt := 480) hx hb dL_isDone_469 (by decide) (fun c_15 => ?_) (fun c_15 => ?_)
              · have nc_15 : 38 ≤ w8 := (wy_ge nr_1 (rfl : (38 : Int32) = nI 38) (by omega) (by decide)).mp c_15
                have JN_17 : ∀ (y_16 : Int32), y_16 = bI (rtB (w9 % 1002) (w10 % 1002)) → ∀ ls : Array Slot, lv_has ls 16 [(12, .int y_8), (11, .int r_7), (10, .int r_5), (9, .int r_3), (8, .int r_1), (0, .ref ox), (1, .ref b), (2, .int p2), (3, .ref ad), (4, .ref av), (5, .ref ao), (6, .ref af), (7, .ref ag)] → W p l e (headSpec wsL_isDone ({ frames := 11, cells := 8, slots := 100, locals := 257 } : Room)).room s m ([.ref ox, .ref b, .int p2, .ref ad, .ref av, .ref ao, .ref af, .ref ag] : List Value).toArray below meth c s.heap [] (0) (0) (MQ below (wq_Q G L0 La s.heap.size (fun r1 L1 f1 fa1 => r1 = .int (bI true) ∧ wZ G ox lo ad av ao af ag La (t + 1) L1 f1 fa1)) ([.ref ox, .ref b, .int p2, .ref ad, .ref av, .ref ao, .ref af, .ref ag] : List Value).toArray s 8 100 (wy_A (L0 ++ La) s.heap.size)) (F0 m 509 ls [.int y_16]) := by
                  intro y_16 hy_16 ls hl
                  refine lv_istore (lv' := [(13, .int y_16), (12, .int y_8), (11, .int r_7), (10, .int r_5), (9, .int r_3), (8, .int r_1), (0, .ref ox), (1, .ref b), (2, .int p2), (3, .ref ad), (4, .ref av), (5, .ref ao), (6, .ref af), (7, .ref ag)]) hx hb dL_isDone_509 hl (by decide) rfl (fun ls hl => ?_)
                  refine lv_aload hx hb dL_isDone_511 (lv_at hl 13 rfl) ?_
                  refine lv_iconst (v := 2) hx hb dL_isDone_513 (by decide) ?_
                  refine lv_iload hx hb dL_isDone_514 (lv_at hl 0 rfl) ?_
                  refine lv_if_eq (tgt := 528) hx hb dL_isDone_516 (by decide) (fun c_18 => ?_) (fun c_18 => ?_)
                  · have bc_18 : (rtB (w9 % 1002) (w10 % 1002)) = false := bI_0 (hy_16.symm.trans c_18)
                    refine lv_aload hx hb dL_isDone_528 (lv_at hl 13 rfl) ?_
                    refine lv_iconst (v := 2) hx hb dL_isDone_530 (by decide) ?_
                    refine wy_iald hx hb hK hw.2.1.1 hR.2.2.2.2.1 (2) (rfl : (2 : Int32) = nI 2) (by omega) (by omega) dL_isDone_531 ?_
                    refine wq_iast hx hb hK hw hR.2.2.2.2.1 (2) (rfl : (2 : Int32) = nI 2) (by omega) (by omega) dL_isDone_532 (fun H locs fa_19 hc_20 hn_21 hw => ?_)
                    obtain ⟨g_22, hg_22⟩ : ∃ y, y = upd g (2) (g 2) := ⟨_, rfl⟩
                    rw [← hg_22] at hc_20
                    have hc_23 := wy_c.ne2 hR.1 hn_21 hne.2.2.2.1
                    have hc_24 := wy_c.ne2 hR.2.1 hn_21 hne.2.2.2.2.2.2.1
                    have hc_25 := wy_c.ne2 hR.2.2.1 hn_21 hne.2.2.2.2.2.2.2.2.1
                    have hc_26 := wy_c.ne2 hR.2.2.2.1 hn_21 hne.2.2.2.2.2.2.2.2.2
                    refine lv_aload hx hb dL_isDone_533 (lv_at hl 13 rfl) ?_
                    refine lv_iconst (v := 3) hx hb dL_isDone_535 (by decide) ?_
                    refine lv_iload hx hb dL_isDone_536 (lv_at hl 0 rfl) ?_
                    refine lv_if_eq (tgt := 550) hx hb dL_isDone_538 (by decide) (fun c_27 => ?_) (fun c_27 => ?_)
                    · have bc_27 : (rtB (w9 % 1002) (w10 % 1002)) = false := bI_0 (hy_16.symm.trans c_27)
                      refine lv_aload hx hb dL_isDone_550 (lv_at hl 13 rfl) ?_
                      refine lv_iconst (v := 3) hx hb dL_isDone_552 (by decide) ?_
                      refine wy_iald hx hb hK hw.2.1.1 hc_20 (3) (rfl : (3 : Int32) = nI 3) (by omega) (by omega) dL_isDone_553 ?_
                      refine wq_iast hx hb hK hw hc_20 (3) (rfl : (3 : Int32) = nI 3) (by omega) (by omega) dL_isDone_554 (fun H locs fa_28 hc_29 hn_30 hw => ?_)
                      obtain ⟨g_31, hg_31⟩ : ∃ y, y = upd g_22 (3) (g_22 3) := ⟨_, rfl⟩
                      rw [← hg_31] at hc_29
                      have hc_32 := wy_c.ne2 hc_23 hn_30 hne.2.2.2.1
                      have hc_33 := wy_c.ne2 hc_24 hn_30 hne.2.2.2.2.2.2.1
                      have hc_34 := wy_c.ne2 hc_25 hn_30 hne.2.2.2.2.2.2.2.2.1
                      have hc_35 := wy_c.ne2 hc_26 hn_30 hne.2.2.2.2.2.2.2.2.2
                      refine lv_aload_n hx hb dL_isDone_555 rfl (lv_at hl 6 rfl) ?_
                      refine lv_iconst (v := 0) hx hb dL_isDone_556 (by decide) ?_
                      refine lv_iload hx hb dL_isDone_557 (lv_at hl 4 rfl) ?_
                      refine lv_sipush (v := 1002) hx hb dL_isDone_559 (by decide) ?_
                      refine lv_irem hx hb dL_isDone_562 (by decide) ?_
                      refine lv_topi (fun x_36 ex_36 => ?_)
                      have nx_36 : x_36 = nI (w9 % 1002) := ex_36.trans (rem_nI nr_3 (rfl : (1002 : Int32) = nI 1002) (by omega) (by omega) (by omega))
                      refine lv_iload hx hb dL_isDone_563 (lv_at hl 3 rfl) ?_
                      refine lv_sipush (v := 1002) hx hb dL_isDone_565 (by decide) ?_
                      refine lv_irem hx hb dL_isDone_568 (by decide) ?_
                      refine lv_topi (fun x_37 ex_37 => ?_)
                      have nx_37 : x_37 = nI (w10 % 1002) := ex_37.trans (rem_nI nr_5 (rfl : (1002 : Int32) = nI 1002) (by omega) (by omega) (by omega))
                      refine lv_iconst (v := 0) hx hb dL_isDone_569 (by decide) ?_
                      refine lv_iconst (v := 0) hx hb dL_isDone_570 (by decide) ?_
                      have hC_38 : srC x_36 x_37 = 1 := by exact sr_1 nx_36 nx_37 (by omega) (by omega) bc_27
                      refine wq_call0 (vx_runSX (As := [.ref ox, .int 0, .int x_36, .int x_37, .int 0, .int (bI false)]) (rest := []) ⟨hx, hb, hml, hown, hts⟩ (m_L_does_rates l hnt (fa := fa_28) hq (x_36) (x_37) (0) (false)) (vx_cwSW 6 hts gL_isDone_L_does rfl rfl rfl (by decide +kernel) ⟨Nat.le_of_ble_eq_true rfl, Nat.le_of_ble_eq_true rfl⟩) (wq_pre0 hK hE hZ hN hw hA) rfl rfl hl.1 rfl (lv_room (Nat.le_of_ble_eq_true rfl)) dL_isDone_571 ⟨(show 0 + 2 ≤ 8 by omega), (show 0 + 12 ≤ 100 by omega)⟩) hw hA (fun r_38 L_38 f_38 fx_38 H locs hp hw => ?_)
                      obtain ⟨er, hq⟩ := wd_er hp (by rw [hC_38]; decide) hq
                      have er : r_38 = .int (-20) := er.trans (congrArg Value.int (by rw [hC_38]; decide))
                      subst er
                      refine lv_iload hx hb dL_isDone_574 (lv_at hl 0 rfl) ?_
                      refine lv_if_eq (tgt := 583) hx hb dL_isDone_576 (by decide) (fun c_39 => ?_) (fun c_39 => ?_)
                      · have bc_39 : (rtB (w9 % 1002) (w10 % 1002)) = false := bI_0 (hy_16.symm.trans c_39)
                        refine lv_bipush (v := (-20)) hx hb dL_isDone_583 (by decide) ?_
                        refine lv_icmp_ne (tgt := 592) hx hb dL_isDone_585 (by decide) (fun z => absurd z (by decide)) (fun _ => ?_)
                        refine lv_iconst (v := 1) hx hb dL_isDone_588 (by decide) ?_
                        refine lv_goto (tgt := 593) hx hb dL_isDone_589 (by decide) ?_
                        exact wq_zret (b := true) rfl hx hb hr hlocks dL_isDone_593 hw (show 0 + 2 ≤ 8 by omega) (show 0 + 12 ≤ 100 by omega) ⟨rfl, ra, ar, n, km, mn, wk, po, rr, d, v, o, fr, g_31, hq, ⟨hc_32, hc_33, hc_34, hc_35, hc_29, hne⟩, hJ.up, B_nrt hB hg_22 hg_31⟩
                      · have bc_39 : (rtB (w9 % 1002) (w10 % 1002)) = true := bI_1 (fun z => c_39 (hy_16.trans z))
                        exact absurd (bc_27.symm.trans bc_39) (by decide)
                    · have bc_27 : (rtB (w9 % 1002) (w10 % 1002)) = true := bI_1 (fun z => c_27 (hy_16.trans z))
                      exact absurd (bc_18.symm.trans bc_27) (by decide)
                  · have bc_18 : (rtB (w9 % 1002) (w10 % 1002)) = true := bI_1 (fun z => c_18 (hy_16.trans z))
                    refine lv_iload hx hb dL_isDone_519 (lv_at hl 4 rfl) ?_
                    refine lv_sipush (v := 1002) hx hb dL_isDone_521 (by decide) ?_
                    refine lv_irem hx hb dL_isDone_524 (by decide) ?_
                    refine lv_topi (fun x_40 ex_40 => ?_)
                    have nx_40 : x_40 = nI (w9 % 1002) := ex_40.trans (rem_nI nr_3 (rfl : (1002 : Int32) = nI 1002) (by omega) (by omega) (by omega))
                    refine lv_goto (tgt := 532) hx hb dL_isDone_525 (by decide) ?_
                    refine wq_iast hx hb hK hw hR.2.2.2.2.1 (2) (rfl : (2 : Int32) = nI 2) (by omega) (by omega) dL_isDone_532 (fun H locs fa_41 hc_42 hn_43 hw => ?_)
                    obtain ⟨g_44, hg_44⟩ : ∃ y, y = upd g (2) (x_40) := ⟨_, rfl⟩
                    rw [← hg_44] at hc_42
                    have hc_45 := wy_c.ne2 hR.1 hn_43 hne.2.2.2.1
                    have hc_46 := wy_c.ne2 hR.2.1 hn_43 hne.2.2.2.2.2.2.1
                    have hc_47 := wy_c.ne2 hR.2.2.1 hn_43 hne.2.2.2.2.2.2.2.2.1
                    have hc_48 := wy_c.ne2 hR.2.2.2.1 hn_43 hne.2.2.2.2.2.2.2.2.2
                    refine lv_aload hx hb dL_isDone_533 (lv_at hl 13 rfl) ?_
                    refine lv_iconst (v := 3) hx hb dL_isDone_535 (by decide) ?_
                    refine lv_iload hx hb dL_isDone_536 (lv_at hl 0 rfl) ?_
                    refine lv_if_eq (tgt := 550) hx hb dL_isDone_538 (by decide) (fun c_49 => ?_) (fun c_49 => ?_)
                    · have bc_49 : (rtB (w9 % 1002) (w10 % 1002)) = false := bI_0 (hy_16.symm.trans c_49)
                      exact absurd (bc_18.symm.trans bc_49) (by decide)
                    · have bc_49 : (rtB (w9 % 1002) (w10 % 1002)) = true := bI_1 (fun z => c_49 (hy_16.trans z))
                      refine lv_iload hx hb dL_isDone_541 (lv_at hl 3 rfl) ?_
                      refine lv_sipush (v := 1002) hx hb dL_isDone_543 (by decide) ?_
                      refine lv_irem hx hb dL_isDone_546 (by decide) ?_
                      refine lv_topi (fun x_50 ex_50 => ?_)
                      have nx_50 : x_50 = nI (w10 % 1002) := ex_50.trans (rem_nI nr_5 (rfl : (1002 : Int32) = nI 1002) (by omega) (by omega) (by omega))
                      refine lv_goto (tgt := 554) hx hb dL_isDone_547 (by decide) ?_
                      refine wq_iast hx hb hK hw hc_42 (3) (rfl : (3 : Int32) = nI 3) (by omega) (by omega) dL_isDone_554 (fun H locs fa_51 hc_52 hn_53 hw => ?_)
                      obtain ⟨g_54, hg_54⟩ : ∃ y, y = upd g_44 (3) (x_50) := ⟨_, rfl⟩
                      rw [← hg_54] at hc_52
                      have hc_55 := wy_c.ne2 hc_45 hn_53 hne.2.2.2.1
                      have hc_56 := wy_c.ne2 hc_46 hn_53 hne.2.2.2.2.2.2.1
                      have hc_57 := wy_c.ne2 hc_47 hn_53 hne.2.2.2.2.2.2.2.2.1
                      have hc_58 := wy_c.ne2 hc_48 hn_53 hne.2.2.2.2.2.2.2.2.2
                      refine lv_aload_n hx hb dL_isDone_555 rfl (lv_at hl 6 rfl) ?_
                      refine lv_iconst (v := 0) hx hb dL_isDone_556 (by decide) ?_
                      refine lv_iload hx hb dL_isDone_557 (lv_at hl 4 rfl) ?_
                      refine lv_sipush (v := 1002) hx hb dL_isDone_559 (by decide) ?_
                      refine lv_irem hx hb dL_isDone_562 (by decide) ?_
                      refine lv_topi (fun x_59 ex_59 => ?_)
                      have nx_59 : x_59 = nI (w9 % 1002) := ex_59.trans (rem_nI nr_3 (rfl : (1002 : Int32) = nI 1002) (by omega) (by omega) (by omega))
                      refine lv_iload hx hb dL_isDone_563 (lv_at hl 3 rfl) ?_
                      refine lv_sipush (v := 1002) hx hb dL_isDone_565 (by decide) ?_
                      refine lv_irem hx hb dL_isDone_568 (by decide) ?_
                      refine lv_topi (fun x_60 ex_60 => ?_)
                      have nx_60 : x_60 = nI (w10 % 1002) := ex_60.trans (rem_nI nr_5 (rfl : (1002 : Int32) = nI 1002) (by omega) (by omega) (by omega))
                      refine lv_iconst (v := 0) hx hb dL_isDone_569 (by decide) ?_
                      refine lv_iconst (v := 0) hx hb dL_isDone_570 (by decide) ?_
                      have hC_61 : srC x_59 x_60 = 0 := by exact sr_0 nx_59 nx_60 (by omega) (by omega) bc_49
                      refine wq_call0 (vx_runSX (As := [.ref ox, .int 0, .int x_59, .int x_60, .int 0, .int (bI false)]) (rest := []) ⟨hx, hb, hml, hown, hts⟩ (m_L_does_rates l hnt (fa := fa_51) hq (x_59) (x_60) (0) (false)) (vx_cwSW 6 hts gL_isDone_L_does rfl rfl rfl (by decide +kernel) ⟨Nat.le_of_ble_eq_true rfl, Nat.le_of_ble_eq_true rfl⟩) (wq_pre0 hK hE hZ hN hw hA) rfl rfl hl.1 rfl (lv_room (Nat.le_of_ble_eq_true rfl)) dL_isDone_571 ⟨(show 0 + 2 ≤ 8 by omega), (show 0 + 12 ≤ 100 by omega)⟩) hw hA (fun r_61 L_61 f_61 fx_61 H locs hp hw => ?_)
                      obtain ⟨er, ra, ar, hq⟩ := wd_ok hp hC_61
                      subst er
                      refine lv_iload hx hb dL_isDone_574 (lv_at hl 0 rfl) ?_
                      refine lv_if_eq (tgt := 583) hx hb dL_isDone_576 (by decide) (fun c_62 => ?_) (fun c_62 => ?_)
                      · have bc_62 : (rtB (w9 % 1002) (w10 % 1002)) = false := bI_0 (hy_16.symm.trans c_62)
                        exact absurd (bc_49.symm.trans bc_62) (by decide)
                      · have bc_62 : (rtB (w9 % 1002) (w10 % 1002)) = true := bI_1 (fun z => c_62 (hy_16.trans z))
                        refine lv_iconst (v := 0) hx hb dL_isDone_579 (by decide) ?_
                        refine lv_goto (tgt := 585) hx hb dL_isDone_580 (by decide) ?_
                        refine lv_icmp_ne (tgt := 592) hx hb dL_isDone_585 (by decide) (fun z => absurd ((rfl : (0 : Int32) = 0)) z) (fun _ => ?_)
                        refine lv_iconst (v := 1) hx hb dL_isDone_588 (by decide) ?_
                        refine lv_goto (tgt := 593) hx hb dL_isDone_589 (by decide) ?_
                        exact wq_zret (b := true) rfl hx hb hr hlocks dL_isDone_593 hw (show 0 + 2 ≤ 8 by omega) (show 0 + 12 ≤ 100 by omega) ⟨rfl, ra, ar, n, x_59, x_60, wk, po, rr, d, v, o, fr, g_54, hq, ⟨hc_55, hc_56, hc_57, hc_58, hc_52, hne⟩, (J_rt hJ nx_59 nx_60 bc_62), B_rt2 hB hg_44 hg_54 nx_40 nx_50 nx_59 nx_60⟩
                refine lv_iload hx hb dL_isDone_480 (lv_at hl 3 rfl) ?_
                refine lv_sipush (v := 1002) hx hb dL_isDone_482 (by decide) ?_
                refine lv_irem hx hb dL_isDone_485 (by decide) ?_
                refine lv_topi (fun x_63 ex_63 => ?_)
                have nx_63 : x_63 = nI (w9 % 1002) := ex_63.trans (rem_nI nr_3 (rfl : (1002 : Int32) = nI 1002) (by omega) (by omega) (by omega))
                refine lv_sipush (v := 1001) hx hb dL_isDone_486 (by decide) ?_
                refine lv_icmp_ge (tgt := 508) hx hb dL_isDone_489 (by decide) (fun c_64 => ?_) (fun c_64 => ?_)
                · have nc_64 : 1001 ≤ w9 % 1002 := (wy_ge nx_63 (rfl : (1001 : Int32) = nI 1001) (by omega) (by decide)).mp c_64
                  refine lv_iconst (v := 0) hx hb dL_isDone_508 (by decide) ?_
                  exact JN_17 _ (rt_0 (by omega)) ls (lv_sub hl [0, 1, 2, 3, 4, 5, 6, 7, 8, 9, 10, 11, 12] rfl)
                · have nc_64 : ¬ (1001 ≤ w9 % 1002) := fun z => c_64 ((wy_ge nx_63 (rfl : (1001 : Int32) = nI 1001) (by omega) (by decide)).mpr z)
                  refine lv_iload hx hb dL_isDone_492 (lv_at hl 2 rfl) ?_
                  refine lv_sipush (v := 1002) hx hb dL_isDone_494 (by decide) ?_
                  refine lv_irem hx hb dL_isDone_497 (by decide) ?_
                  refine lv_topi (fun x_65 ex_65 => ?_)
                  have nx_65 : x_65 = nI (w10 % 1002) := ex_65.trans (rem_nI nr_5 (rfl : (1002 : Int32) = nI 1002) (by omega) (by omega) (by omega))
                  refine lv_sipush (v := 1001) hx hb dL_isDone_498 (by decide) ?_
                  refine lv_icmp_ge (tgt := 508) hx hb dL_isDone_501 (by decide) (fun c_66 => ?_) (fun c_66 => ?_)
                  · have nc_66 : 1001 ≤ w10 % 1002 := (wy_ge nx_65 (rfl : (1001 : Int32) = nI 1001) (by omega) (by decide)).mp c_66
                    refine lv_iconst (v := 0) hx hb dL_isDone_508 (by decide) ?_
                    exact JN_17 _ (rt_0 (by omega)) ls (lv_sub hl [0, 1, 2, 3, 4, 5, 6, 7, 8, 9, 10, 11, 12] rfl)
                  · have nc_66 : ¬ (1001 ≤ w10 % 1002) := fun z => c_66 ((wy_ge nx_65 (rfl : (1001 : Int32) = nI 1001) (by omega) (by decide)).mpr z)
                    refine lv_iconst (v := 1) hx hb dL_isDone_504 (by decide) ?_
                    refine lv_goto (tgt := 509) hx hb dL_isDone_505 (by decide) ?_
                    exact JN_17 _ (rt_1 ⟨by omega, by omega⟩) ls (lv_sub hl [0, 1, 2, 3, 4, 5, 6, 7, 8, 9, 10, 11, 12] rfl)
              · have nc_15 : ¬ (38 ≤ w8) := fun z => c_15 ((wy_ge nr_1 (rfl : (38 : Int32) = nI 38) (by omega) (by decide)).mpr z)
                refine lv_aload_n hx hb dL_isDone_472 rfl (lv_at hl 5 rfl) ?_
                refine lv_aload_n hx hb dL_isDone_473 rfl (lv_at hl 8 rfl) ?_
                refine lv_aload hx hb dL_isDone_474 (lv_at hl 12 rfl) ?_
                refine wq_call (va_runS (As := [.ref ox, .ref ad, .ref ag]) (rest := []) ⟨hx, hb, hml, hown, hts⟩ (m_L_isClosed l hnt hq hR hJ hB ht) (va_cwS 3 hts gL_isDone_L_isClosed rfl rfl rfl (by decide +kernel) ⟨Nat.le_of_ble_eq_true rfl, Nat.le_of_ble_eq_true rfl⟩) (wq_pre hK hE hZ hN hw hA) rfl rfl hl.1 rfl (lv_room (Nat.le_of_ble_eq_true rfl)) dL_isDone_476 ⟨(show 0 + 1 ≤ 8 by omega), (show 0 + 6 ≤ 100 by omega)⟩) hw hA (fun r_67 L_67 f_67 fa_67 H locs hp hw => ?_)
                obtain ⟨er, hZ9⟩ := hp
                subst er
                exact wq_zret (b := true) rfl hx hb hr hlocks dL_isDone_479 hw (show 0 + 1 ≤ 8 by omega) (show 0 + 6 ≤ 100 by omega) ⟨rfl, hZ9⟩
            · have nc_14 : ¬ (36 ≤ w8) := fun z => c_14 ((wy_ge nr_1 (rfl : (36 : Int32) = nI 36) (by omega) (by decide)).mpr z)
              refine lv_aload_n hx hb dL_isDone_399 rfl (lv_at hl 5 rfl) ?_
              refine lv_aload_n hx hb dL_isDone_400 rfl (lv_at hl 8 rfl) ?_
              refine lv_aload hx hb dL_isDone_401 (lv_at hl 10 rfl) ?_
              refine lv_aload hx hb dL_isDone_403 (lv_at hl 11 rfl) ?_
              refine lv_aload hx hb dL_isDone_405 (lv_at hl 12 rfl) ?_
              refine lv_aload hx hb dL_isDone_407 (lv_at hl 12 rfl) ?_
              refine lv_iconst (v := 0) hx hb dL_isDone_409 (by decide) ?_
              refine wy_iald hx hb hK hw.2.1.1 hR.2.2.2.2.1 (0) (rfl : (0 : Int32) = nI 0) (by omega) (by omega) dL_isDone_410 ?_
              refine lv_if_ne (tgt := 418) hx hb dL_isDone_411 (by decide) (fun c_68 => ?_) (fun c_68 => ?_)
              · have hn0 : 0 < n := n_p hB.2.2.2.2.2.2.1 c_68
                refine lv_iload hx hb dL_isDone_418 (lv_at hl 3 rfl) ?_
                refine lv_aload hx hb dL_isDone_420 (lv_at hl 12 rfl) ?_
                refine lv_iconst (v := 0) hx hb dL_isDone_422 (by decide) ?_
                refine wy_iald hx hb hK hw.2.1.1 hR.2.2.2.2.1 (0) (rfl : (0 : Int32) = nI 0) (by omega) (by omega) dL_isDone_423 ?_
                refine lv_iconst (v := 1) hx hb dL_isDone_424 (by decide) ?_
                refine lv_iadd hx hb dL_isDone_425 ?_
                refine lv_topi (fun x_69 ex_69 => ?_)
                have nx_69 : x_69 = nI (n + 1) := ex_69.trans ((congr (congrArg (fun u v : Int32 => u + v) hB.2.2.2.2.2.2.1) (rfl : (1 : Int32) = nI 1)).trans (nI_add _ _))
                refine lv_irem hx hb dL_isDone_426 (n_nz nx_69 (by omega) (by omega)) ?_
                refine lv_topi (fun x_70 ex_70 => ?_)
                have nx_70 : x_70 = nI (w9 % (n + 1)) := ex_70.trans (rem_nI nr_3 nx_69 (by omega) (by omega) (by omega))
                have hmr : w9 % (n + 1) < n + 1 := Nat.mod_lt w9 (Nat.succ_pos n)
                refine lv_iload hx hb dL_isDone_427 (lv_at hl 2 rfl) ?_
                refine lv_bipush (v := 11) hx hb dL_isDone_429 (by decide) ?_
                refine lv_irem hx hb dL_isDone_431 (by decide) ?_
                refine lv_topi (fun x_71 ex_71 => ?_)
                have nx_71 : x_71 = nI (w10 % 11) := ex_71.trans (rem_nI nr_5 (rfl : (11 : Int32) = nI 11) (by omega) (by omega) (by omega))
                refine lv_iload hx hb dL_isDone_432 (lv_at hl 2 rfl) ?_
                refine lv_iconst (v := 3) hx hb dL_isDone_434 (by decide) ?_
                refine lv_irem hx hb dL_isDone_435 (by decide) ?_
                refine lv_topi (fun x_72 ex_72 => ?_)
                have nx_72 : x_72 = nI (w10 % 3) := ex_72.trans (rem_nI nr_5 (rfl : (3 : Int32) = nI 3) (by omega) (by omega) (by omega))
                refine lv_if_ne (tgt := 444) hx hb dL_isDone_436 (by decide) (fun c_73 => ?_) (fun c_73 => ?_)
                · refine lv_iload hx hb dL_isDone_444 (lv_at hl 1 rfl) ?_
                  refine lv_bipush (v := 103) hx hb dL_isDone_446 (by decide) ?_
                  refine lv_irem hx hb dL_isDone_448 (by decide) ?_
                  refine lv_topi (fun x_74 ex_74 => ?_)
                  have nx_74 : x_74 = nI (w11 % 103) := ex_74.trans (rem_nI nr_7 (rfl : (103 : Int32) = nI 103) (by omega) (by omega) (by omega))
                  refine lv_iload hx hb dL_isDone_449 (lv_at hl 3 rfl) ?_
                  refine lv_iconst (v := 2) hx hb dL_isDone_451 (by decide) ?_
                  refine lv_irem hx hb dL_isDone_452 (by decide) ?_
                  refine lv_topi (fun x_75 ex_75 => ?_)
                  have nx_75 : x_75 = nI (w9 % 2) := ex_75.trans (rem_nI nr_3 (rfl : (2 : Int32) = nI 2) (by omega) (by omega) (by omega))
                  refine lv_if_ne (tgt := 460) hx hb dL_isDone_453 (by decide) (fun c_76 => ?_) (fun c_76 => ?_)
                  · refine lv_iconst (v := 0) hx hb dL_isDone_460 (by decide) ?_
                    refine wq_call (va_runS (As := [.ref ox, .ref ad, .ref ao, .ref af, .ref ag, .int x_70, .int x_71, .int x_74, .int 0]) (rest := []) ⟨hx, hb, hml, hown, hts⟩ (m_L_isDisputed l hnt hq hR hJ hB ht (x_70) (x_71) (x_74) false (w9 % (n + 1)) (w10 % 11) (w11 % 103) (by omega) (by omega) (by omega) nx_70 nx_71 nx_74) (va_cwS 9 hts gL_isDone_L_isDisputed rfl rfl rfl (by decide +kernel) ⟨Nat.le_of_ble_eq_true rfl, Nat.le_of_ble_eq_true rfl⟩) (wq_pre hK hE hZ hN hw hA) rfl rfl hl.1 rfl (lv_room (Nat.le_of_ble_eq_true rfl)) dL_isDone_461 ⟨(show 0 + 8 ≤ 8 by omega), (show 0 + 48 ≤ 100 by omega)⟩) hw hA (fun r_77 L_77 f_77 fa_77 H locs hp hw => ?_)
                    obtain ⟨er, hZ9⟩ := hp
                    subst er
                    exact wq_zret (b := true) rfl hx hb hr hlocks dL_isDone_464 hw (show 0 + 8 ≤ 8 by omega) (show 0 + 48 ≤ 100 by omega) ⟨rfl, hZ9⟩
                  · refine lv_iconst (v := 1) hx hb dL_isDone_456 (by decide) ?_
                    refine lv_goto (tgt := 461) hx hb dL_isDone_457 (by decide) ?_
                    refine wq_call (va_runS (As := [.ref ox, .ref ad, .ref ao, .ref af, .ref ag, .int x_70, .int x_71, .int x_74, .int 1]) (rest := []) ⟨hx, hb, hml, hown, hts⟩ (m_L_isDisputed l hnt hq hR hJ hB ht (x_70) (x_71) (x_74) true (w9 % (n + 1)) (w10 % 11) (w11 % 103) (by omega) (by omega) (by omega) nx_70 nx_71 nx_74) (va_cwS 9 hts gL_isDone_L_isDisputed rfl rfl rfl (by decide +kernel) ⟨Nat.le_of_ble_eq_true rfl, Nat.le_of_ble_eq_true rfl⟩) (wq_pre hK hE hZ hN hw hA) rfl rfl hl.1 rfl (lv_room (Nat.le_of_ble_eq_true rfl)) dL_isDone_461 ⟨(show 0 + 8 ≤ 8 by omega), (show 0 + 48 ≤ 100 by omega)⟩) hw hA (fun r_78 L_78 f_78 fa_78 H locs hp hw => ?_)
                    obtain ⟨er, hZ9⟩ := hp
                    subst er
                    exact wq_zret (b := true) rfl hx hb hr hlocks dL_isDone_464 hw (show 0 + 8 ≤ 8 by omega) (show 0 + 48 ≤ 100 by omega) ⟨rfl, hZ9⟩
                · refine lv_bipush (v := 100) hx hb dL_isDone_439 (by decide) ?_
                  refine lv_goto (tgt := 449) hx hb dL_isDone_441 (by decide) ?_
                  refine lv_iload hx hb dL_isDone_449 (lv_at hl 3 rfl) ?_
                  refine lv_iconst (v := 2) hx hb dL_isDone_451 (by decide) ?_
                  refine lv_irem hx hb dL_isDone_452 (by decide) ?_
                  refine lv_topi (fun x_79 ex_79 => ?_)
                  have nx_79 : x_79 = nI (w9 % 2) := ex_79.trans (rem_nI nr_3 (rfl : (2 : Int32) = nI 2) (by omega) (by omega) (by omega))
                  refine lv_if_ne (tgt := 460) hx hb dL_isDone_453 (by decide) (fun c_80 => ?_) (fun c_80 => ?_)
                  · refine lv_iconst (v := 0) hx hb dL_isDone_460 (by decide) ?_
                    refine wq_call (va_runS (As := [.ref ox, .ref ad, .ref ao, .ref af, .ref ag, .int x_70, .int x_71, .int 100, .int 0]) (rest := []) ⟨hx, hb, hml, hown, hts⟩ (m_L_isDisputed l hnt hq hR hJ hB ht (x_70) (x_71) (100) false (w9 % (n + 1)) (w10 % 11) (100) (by omega) (by omega) (by omega) nx_70 nx_71 (rfl : (100 : Int32) = nI 100)) (va_cwS 9 hts gL_isDone_L_isDisputed rfl rfl rfl (by decide +kernel) ⟨Nat.le_of_ble_eq_true rfl, Nat.le_of_ble_eq_true rfl⟩) (wq_pre hK hE hZ hN hw hA) rfl rfl hl.1 rfl (lv_room (Nat.le_of_ble_eq_true rfl)) dL_isDone_461 ⟨(show 0 + 8 ≤ 8 by omega), (show 0 + 48 ≤ 100 by omega)⟩) hw hA (fun r_81 L_81 f_81 fa_81 H locs hp hw => ?_)
                    obtain ⟨er, hZ9⟩ := hp
                    subst er
                    exact wq_zret (b := true) rfl hx hb hr hlocks dL_isDone_464 hw (show 0 + 8 ≤ 8 by omega) (show 0 + 48 ≤ 100 by omega) ⟨rfl, hZ9⟩
                  · refine lv_iconst (v := 1) hx hb dL_isDone_456 (by decide) ?_
                    refine lv_goto (tgt := 461) hx hb dL_isDone_457 (by decide) ?_
                    refine wq_call (va_runS (As := [.ref ox, .ref ad, .ref ao, .ref af, .ref ag, .int x_70, .int x_71, .int 100, .int 1]) (rest := []) ⟨hx, hb, hml, hown, hts⟩ (m_L_isDisputed l hnt hq hR hJ hB ht (x_70) (x_71) (100) true (w9 % (n + 1)) (w10 % 11) (100) (by omega) (by omega) (by omega) nx_70 nx_71 (rfl : (100 : Int32) = nI 100)) (va_cwS 9 hts gL_isDone_L_isDisputed rfl rfl rfl (by decide +kernel) ⟨Nat.le_of_ble_eq_true rfl, Nat.le_of_ble_eq_true rfl⟩) (wq_pre hK hE hZ hN hw hA) rfl rfl hl.1 rfl (lv_room (Nat.le_of_ble_eq_true rfl)) dL_isDone_461 ⟨(show 0 + 8 ≤ 8 by omega), (show 0 + 48 ≤ 100 by omega)⟩) hw hA (fun r_82 L_82 f_82 fa_82 H locs hp hw => ?_)
                    obtain ⟨er, hZ9⟩ := hp
                    subst er
                    exact wq_zret (b := true) rfl hx hb hr hlocks dL_isDone_464 hw (show 0 + 8 ≤ 8 by omega) (show 0 + 48 ≤ 100 by omega) ⟨rfl, hZ9⟩
              · have hn0 : n = 0 := n_z hB.2.2.2.2.2.2.1 (by omega) c_68
                refine lv_iconst (v := 0) hx hb dL_isDone_414 (by decide) ?_
                refine lv_goto (tgt := 427) hx hb dL_isDone_415 (by decide) ?_
                refine lv_iload hx hb dL_isDone_427 (lv_at hl 2 rfl) ?_
                refine lv_bipush (v := 11) hx hb dL_isDone_429 (by decide) ?_
                refine lv_irem hx hb dL_isDone_431 (by decide) ?_
                refine lv_topi (fun x_83 ex_83 => ?_)
                have nx_83 : x_83 = nI (w10 % 11) := ex_83.trans (rem_nI nr_5 (rfl : (11 : Int32) = nI 11) (by omega) (by omega) (by omega))
                refine lv_iload hx hb dL_isDone_432 (lv_at hl 2 rfl) ?_
                refine lv_iconst (v := 3) hx hb dL_isDone_434 (by decide) ?_
                refine lv_irem hx hb dL_isDone_435 (by decide) ?_
                refine lv_topi (fun x_84 ex_84 => ?_)
                have nx_84 : x_84 = nI (w10 % 3) := ex_84.trans (rem_nI nr_5 (rfl : (3 : Int32) = nI 3) (by omega) (by omega) (by omega))
                refine lv_if_ne (tgt := 444) hx hb dL_isDone_436 (by decide) (fun c_85 => ?_) (fun c_85 => ?_)
                · refine lv_iload hx hb dL_isDone_444 (lv_at hl 1 rfl) ?_
                  refine lv_bipush (v := 103) hx hb dL_isDone_446 (by decide) ?_
                  refine lv_irem hx hb dL_isDone_448 (by decide) ?_
                  refine lv_topi (fun x_86 ex_86 => ?_)
                  have nx_86 : x_86 = nI (w11 % 103) := ex_86.trans (rem_nI nr_7 (rfl : (103 : Int32) = nI 103) (by omega) (by omega) (by omega))
                  refine lv_iload hx hb dL_isDone_449 (lv_at hl 3 rfl) ?_
                  refine lv_iconst (v := 2) hx hb dL_isDone_451 (by decide) ?_
                  refine lv_irem hx hb dL_isDone_452 (by decide) ?_
                  refine lv_topi (fun x_87 ex_87 => ?_)
                  have nx_87 : x_87 = nI (w9 % 2) := ex_87.trans (rem_nI nr_3 (rfl : (2 : Int32) = nI 2) (by omega) (by omega) (by omega))
                  refine lv_if_ne (tgt := 460) hx hb dL_isDone_453 (by decide) (fun c_88 => ?_) (fun c_88 => ?_)
                  · refine lv_iconst (v := 0) hx hb dL_isDone_460 (by decide) ?_
                    refine wq_call (va_runS (As := [.ref ox, .ref ad, .ref ao, .ref af, .ref ag, .int 0, .int x_83, .int x_86, .int 0]) (rest := []) ⟨hx, hb, hml, hown, hts⟩ (m_L_isDisputed l hnt hq hR hJ hB ht (0) (x_83) (x_86) false (0) (w10 % 11) (w11 % 103) (by omega) (by omega) (by omega) (rfl : (0 : Int32) = nI 0) nx_83 nx_86) (va_cwS 9 hts gL_isDone_L_isDisputed rfl rfl rfl (by decide +kernel) ⟨Nat.le_of_ble_eq_true rfl, Nat.le_of_ble_eq_true rfl⟩) (wq_pre hK hE hZ hN hw hA) rfl rfl hl.1 rfl (lv_room (Nat.le_of_ble_eq_true rfl)) dL_isDone_461 ⟨(show 0 + 8 ≤ 8 by omega), (show 0 + 48 ≤ 100 by omega)⟩) hw hA (fun r_89 L_89 f_89 fa_89 H locs hp hw => ?_)
                    obtain ⟨er, hZ9⟩ := hp
                    subst er
                    exact wq_zret (b := true) rfl hx hb hr hlocks dL_isDone_464 hw (show 0 + 8 ≤ 8 by omega) (show 0 + 48 ≤ 100 by omega) ⟨rfl, hZ9⟩
                  · refine lv_iconst (v := 1) hx hb dL_isDone_456 (by decide) ?_
                    refine lv_goto (tgt := 461) hx hb dL_isDone_457 (by decide) ?_
                    refine wq_call (va_runS (As := [.ref ox, .ref ad, .ref ao, .ref af, .ref ag, .int 0, .int x_83, .int x_86, .int 1]) (rest := []) ⟨hx, hb, hml, hown, hts⟩ (m_L_isDisputed l hnt hq hR hJ hB ht (0) (x_83) (x_86) true (0) (w10 % 11) (w11 % 103) (by omega) (by omega) (by omega) (rfl : (0 : Int32) = nI 0) nx_83 nx_86) (va_cwS 9 hts gL_isDone_L_isDisputed rfl rfl rfl (by decide +kernel) ⟨Nat.le_of_ble_eq_true rfl, Nat.le_of_ble_eq_true rfl⟩) (wq_pre hK hE hZ hN hw hA) rfl rfl hl.1 rfl (lv_room (Nat.le_of_ble_eq_true rfl)) dL_isDone_461 ⟨(show 0 + 8 ≤ 8 by omega), (show 0 + 48 ≤ 100 by omega)⟩) hw hA (fun r_90 L_90 f_90 fa_90 H locs hp hw => ?_)
                    obtain ⟨er, hZ9⟩ := hp
                    subst er
                    exact wq_zret (b := true) rfl hx hb hr hlocks dL_isDone_464 hw (show 0 + 8 ≤ 8 by omega) (show 0 + 48 ≤ 100 by omega) ⟨rfl, hZ9⟩
                · refine lv_bipush (v := 100) hx hb dL_isDone_439 (by decide) ?_
                  refine lv_goto (tgt := 449) hx hb dL_isDone_441 (by decide) ?_
                  refine lv_iload hx hb dL_isDone_449 (lv_at hl 3 rfl) ?_
                  refine lv_iconst (v := 2) hx hb dL_isDone_451 (by decide) ?_
                  refine lv_irem hx hb dL_isDone_452 (by decide) ?_
                  refine lv_topi (fun x_91 ex_91 => ?_)
                  have nx_91 : x_91 = nI (w9 % 2) := ex_91.trans (rem_nI nr_3 (rfl : (2 : Int32) = nI 2) (by omega) (by omega) (by omega))
                  refine lv_if_ne (tgt := 460) hx hb dL_isDone_453 (by decide) (fun c_92 => ?_) (fun c_92 => ?_)
                  · refine lv_iconst (v := 0) hx hb dL_isDone_460 (by decide) ?_
                    refine wq_call (va_runS (As := [.ref ox, .ref ad, .ref ao, .ref af, .ref ag, .int 0, .int x_83, .int 100, .int 0]) (rest := []) ⟨hx, hb, hml, hown, hts⟩ (m_L_isDisputed l hnt hq hR hJ hB ht (0) (x_83) (100) false (0) (w10 % 11) (100) (by omega) (by omega) (by omega) (rfl : (0 : Int32) = nI 0) nx_83 (rfl : (100 : Int32) = nI 100)) (va_cwS 9 hts gL_isDone_L_isDisputed rfl rfl rfl (by decide +kernel) ⟨Nat.le_of_ble_eq_true rfl, Nat.le_of_ble_eq_true rfl⟩) (wq_pre hK hE hZ hN hw hA) rfl rfl hl.1 rfl (lv_room (Nat.le_of_ble_eq_true rfl)) dL_isDone_461 ⟨(show 0 + 8 ≤ 8 by omega), (show 0 + 48 ≤ 100 by omega)⟩) hw hA (fun r_93 L_93 f_93 fa_93 H locs hp hw => ?_)
                    obtain ⟨er, hZ9⟩ := hp
                    subst er
                    exact wq_zret (b := true) rfl hx hb hr hlocks dL_isDone_464 hw (show 0 + 8 ≤ 8 by omega) (show 0 + 48 ≤ 100 by omega) ⟨rfl, hZ9⟩
                  · refine lv_iconst (v := 1) hx hb dL_isDone_456 (by decide) ?_
                    refine lv_goto (tgt := 461) hx hb dL_isDone_457 (by decide) ?_
                    refine wq_call (va_runS (As := [.ref ox, .ref ad, .ref ao, .ref af, .ref ag, .int 0, .int x_83, .int 100, .int 1]) (rest := []) ⟨hx, hb, hml, hown, hts⟩ (m_L_isDisputed l hnt hq hR hJ hB ht (0) (x_83) (100) true (0) (w10 % 11) (100) (by omega) (by omega) (by omega) (rfl : (0 : Int32) = nI 0) nx_83 (rfl : (100 : Int32) = nI 100)) (va_cwS 9 hts gL_isDone_L_isDisputed rfl rfl rfl (by decide +kernel) ⟨Nat.le_of_ble_eq_true rfl, Nat.le_of_ble_eq_true rfl⟩) (wq_pre hK hE hZ hN hw hA) rfl rfl hl.1 rfl (lv_room (Nat.le_of_ble_eq_true rfl)) dL_isDone_461 ⟨(show 0 + 8 ≤ 8 by omega), (show 0 + 48 ≤ 100 by omega)⟩) hw hA (fun r_94 L_94 f_94 fa_94 H locs hp hw => ?_)
                    obtain ⟨er, hZ9⟩ := hp
                    subst er
                    exact wq_zret (b := true) rfl hx hb hr hlocks dL_isDone_464 hw (show 0 + 8 ≤ 8 by omega) (show 0 + 48 ≤ 100 by omega) ⟨rfl, hZ9⟩
          · have nc_13 : ¬ (28 ≤ w8) := fun z => c_13 ((wy_ge nr_1 (rfl : (28 : Int32) = nI 28) (by omega) (by decide)).mpr z)
            refine lv_aload_n hx hb dL_isDone_380 rfl (lv_at hl 5 rfl) ?_
            refine lv_aload_n hx hb dL_isDone_381 rfl (lv_at hl 8 rfl) ?_
            refine lv_aload hx hb dL_isDone_382 (lv_at hl 9 rfl) ?_
            refine lv_aload hx hb dL_isDone_384 (lv_at hl 12 rfl) ?_
            refine lv_iload hx hb dL_isDone_386 (lv_at hl 0 rfl) ?_
            refine wq_call (va_runS (As := [.ref ox, .ref ad, .ref av, .ref ag, .int y_8]) (rest := []) ⟨hx, hb, hml, hown, hts⟩ (m_L_isFinished l hnt hq hR hJ hB ht (y_8) (k9) (by omega) ek9) (va_cwS 5 hts gL_isDone_L_isFinished rfl rfl rfl (by decide +kernel) ⟨Nat.le_of_ble_eq_true rfl, Nat.le_of_ble_eq_true rfl⟩) (wq_pre hK hE hZ hN hw hA) rfl rfl hl.1 rfl (lv_room (Nat.le_of_ble_eq_true rfl)) dL_isDone_388 ⟨(show 0 + 2 ≤ 8 by omega), (show 0 + 12 ≤ 100 by omega)⟩) hw hA (fun r_95 L_95 f_95 fa_95 H locs hp hw => ?_)
            obtain ⟨er, hZ9⟩ := hp
            subst er
            exact wq_zret (b := true) rfl hx hb hr hlocks dL_isDone_391 hw (show 0 + 2 ≤ 8 by omega) (show 0 + 12 ≤ 100 by omega) ⟨rfl, hZ9⟩
        · have nc_12 : ¬ (24 ≤ w8) := fun z => c_12 ((wy_ge nr_1 (rfl : (24 : Int32) = nI 24) (by omega) (by decide)).mpr z)
          refine lv_aload_n hx hb dL_isDone_353 rfl (lv_at hl 5 rfl) ?_
          refine lv_aload_n hx hb dL_isDone_354 rfl (lv_at hl 8 rfl) ?_
          refine lv_aload hx hb dL_isDone_355 (lv_at hl 12 rfl) ?_
          refine lv_iload hx hb dL_isDone_357 (lv_at hl 0 rfl) ?_
          refine lv_iload hx hb dL_isDone_359 (lv_at hl 2 rfl) ?_
          refine lv_bipush (v := 102) hx hb dL_isDone_361 (by decide) ?_
          refine lv_irem hx hb dL_isDone_363 (by decide) ?_
          refine lv_topi (fun x_96 ex_96 => ?_)
          have nx_96 : x_96 = nI (w10 % 102) := ex_96.trans (rem_nI nr_5 (rfl : (102 : Int32) = nI 102) (by omega) (by omega) (by omega))
          refine lv_iload hx hb dL_isDone_364 (lv_at hl 1 rfl) ?_
          refine lv_bipush (v := 122) hx hb dL_isDone_366 (by decide) ?_
          refine lv_irem hx hb dL_isDone_368 (by decide) ?_
          refine lv_topi (fun x_97 ex_97 => ?_)
          have nx_97 : x_97 = nI (w11 % 122) := ex_97.trans (rem_nI nr_7 (rfl : (122 : Int32) = nI 122) (by omega) (by omega) (by omega))
          refine wq_call (va_runS (As := [.ref ox, .ref ad, .ref ag, .int y_8, .int x_96, .int x_97]) (rest := []) ⟨hx, hb, hml, hown, hts⟩ (m_L_isDriven l hnt hq hR hJ hB ht (y_8) (x_96) (x_97) (k9) (w10 % 102) (w11 % 122) (by omega) (by omega) (by omega) ek9 nx_96 nx_97) (va_cwS 6 hts gL_isDone_L_isDriven rfl rfl rfl (by decide +kernel) ⟨Nat.le_of_ble_eq_true rfl, Nat.le_of_ble_eq_true rfl⟩) (wq_pre hK hE hZ hN hw hA) rfl rfl hl.1 rfl (lv_room (Nat.le_of_ble_eq_true rfl)) dL_isDone_369 ⟨(show 0 + 5 ≤ 8 by omega), (show 0 + 34 ≤ 100 by omega)⟩) hw hA (fun r_98 L_98 f_98 fa_98 H locs hp hw => ?_)
          obtain ⟨er, hZ9⟩ := hp
          subst er
          exact wq_zret (b := true) rfl hx hb hr hlocks dL_isDone_372 hw (show 0 + 5 ≤ 8 by omega) (show 0 + 34 ≤ 100 by omega) ⟨rfl, hZ9⟩
      · have nc_11 : ¬ (17 ≤ w8) := fun z => c_11 ((wy_ge nr_1 (rfl : (17 : Int32) = nI 17) (by omega) (by decide)).mpr z)
        refine lv_aload_n hx hb dL_isDone_295 rfl (lv_at hl 5 rfl) ?_
        refine lv_aload_n hx hb dL_isDone_296 rfl (lv_at hl 8 rfl) ?_
        refine lv_aload hx hb dL_isDone_297 (lv_at hl 9 rfl) ?_
        refine lv_aload hx hb dL_isDone_299 (lv_at hl 12 rfl) ?_
        refine lv_iload hx hb dL_isDone_301 (lv_at hl 4 rfl) ?_
        refine lv_bipush (v := 9) hx hb dL_isDone_303 (by decide) ?_
        refine lv_icmp_ge (tgt := 312) hx hb dL_isDone_305 (by decide) (fun c_99 => ?_) (fun c_99 => ?_)
        · have nc_99 : 9 ≤ w8 := (wy_ge nr_1 (rfl : (9 : Int32) = nI 9) (by omega) (by decide)).mp c_99
          refine lv_iload hx hb dL_isDone_312 (lv_at hl 4 rfl) ?_
          refine lv_bipush (v := 9) hx hb dL_isDone_314 (by decide) ?_
          refine lv_icmp_ne (tgt := 323) hx hb dL_isDone_316 (by decide) (fun c_100 => ?_) (fun c_100 => ?_)
          · have nc_100 : ¬ (w8 = 9) := fun z => c_100 ((wy_eq nr_1 (rfl : (9 : Int32) = nI 9) (by omega) (by decide)).mpr z)
            refine lv_iload hx hb dL_isDone_323 (lv_at hl 4 rfl) ?_
            refine lv_bipush (v := 15) hx hb dL_isDone_325 (by decide) ?_
            refine lv_icmp_ge (tgt := 334) hx hb dL_isDone_327 (by decide) (fun c_101 => ?_) (fun c_101 => ?_)
            · have nc_101 : 15 ≤ w8 := (wy_ge nr_1 (rfl : (15 : Int32) = nI 15) (by omega) (by decide)).mp c_101
              refine lv_iconst (v := 5) hx hb dL_isDone_334 (by decide) ?_
              refine lv_iload hx hb dL_isDone_335 (lv_at hl 0 rfl) ?_
              refine lv_iload hx hb dL_isDone_337 (lv_at hl 2 rfl) ?_
              refine lv_bipush (v := 11) hx hb dL_isDone_339 (by decide) ?_
              refine lv_irem hx hb dL_isDone_341 (by decide) ?_
              refine lv_topi (fun x_102 ex_102 => ?_)
              have nx_102 : x_102 = nI (w10 % 11) := ex_102.trans (rem_nI nr_5 (rfl : (11 : Int32) = nI 11) (by omega) (by omega) (by omega))
              refine wq_call (va_runS (As := [.ref ox, .ref ad, .ref av, .ref ag, .int 5, .int y_8, .int x_102]) (rest := []) ⟨hx, hb, hml, hown, hts⟩ (m_L_isSeat_leave l hnt hq hR hJ hB ht (y_8) (x_102) (k9) (w10 % 11) (by omega) (by omega) ek9 nx_102) (va_cwS 7 hts gL_isDone_L_isSeat rfl rfl rfl (by decide +kernel) ⟨Nat.le_of_ble_eq_true rfl, Nat.le_of_ble_eq_true rfl⟩) (wq_pre hK hE hZ hN hw hA) rfl rfl hl.1 rfl (lv_room (Nat.le_of_ble_eq_true rfl)) dL_isDone_342 ⟨(show 0 + 4 ≤ 8 by omega), (show 0 + 24 ≤ 100 by omega)⟩) hw hA (fun r_103 L_103 f_103 fa_103 H locs hp hw => ?_)
              obtain ⟨er, hZ9⟩ := hp
              subst er
              exact wq_zret (b := true) rfl hx hb hr hlocks dL_isDone_345 hw (show 0 + 4 ≤ 8 by omega) (show 0 + 24 ≤ 100 by omega) ⟨rfl, hZ9⟩
            · have nc_101 : ¬ (15 ≤ w8) := fun z => c_101 ((wy_ge nr_1 (rfl : (15 : Int32) = nI 15) (by omega) (by decide)).mpr z)
              refine lv_iconst (v := 4) hx hb dL_isDone_330 (by decide) ?_
              refine lv_goto (tgt := 335) hx hb dL_isDone_331 (by decide) ?_
              refine lv_iload hx hb dL_isDone_335 (lv_at hl 0 rfl) ?_
              refine lv_iload hx hb dL_isDone_337 (lv_at hl 2 rfl) ?_
              refine lv_bipush (v := 11) hx hb dL_isDone_339 (by decide) ?_
              refine lv_irem hx hb dL_isDone_341 (by decide) ?_
              refine lv_topi (fun x_104 ex_104 => ?_)
              have nx_104 : x_104 = nI (w10 % 11) := ex_104.trans (rem_nI nr_5 (rfl : (11 : Int32) = nI 11) (by omega) (by omega) (by omega))
              refine wq_call (va_runS (As := [.ref ox, .ref ad, .ref av, .ref ag, .int 4, .int y_8, .int x_104]) (rest := []) ⟨hx, hb, hml, hown, hts⟩ (m_L_isSeat_board l hnt hq hR hJ hB ht (y_8) (x_104) (k9) (w10 % 11) (by omega) (by omega) ek9 nx_104) (va_cwS 7 hts gL_isDone_L_isSeat rfl rfl rfl (by decide +kernel) ⟨Nat.le_of_ble_eq_true rfl, Nat.le_of_ble_eq_true rfl⟩) (wq_pre hK hE hZ hN hw hA) rfl rfl hl.1 rfl (lv_room (Nat.le_of_ble_eq_true rfl)) dL_isDone_342 ⟨(show 0 + 4 ≤ 8 by omega), (show 0 + 24 ≤ 100 by omega)⟩) hw hA (fun r_105 L_105 f_105 fa_105 H locs hp hw => ?_)
              obtain ⟨er, hZ9⟩ := hp
              subst er
              exact wq_zret (b := true) rfl hx hb hr hlocks dL_isDone_345 hw (show 0 + 4 ≤ 8 by omega) (show 0 + 24 ≤ 100 by omega) ⟨rfl, hZ9⟩
          · have nc_100 : w8 = 9 := (wy_eq nr_1 (rfl : (9 : Int32) = nI 9) (by omega) (by decide)).mp c_100
            refine lv_iconst (v := 3) hx hb dL_isDone_319 (by decide) ?_
            refine lv_goto (tgt := 335) hx hb dL_isDone_320 (by decide) ?_
            refine lv_iload hx hb dL_isDone_335 (lv_at hl 0 rfl) ?_
            refine lv_iload hx hb dL_isDone_337 (lv_at hl 2 rfl) ?_
            refine lv_bipush (v := 11) hx hb dL_isDone_339 (by decide) ?_
            refine lv_irem hx hb dL_isDone_341 (by decide) ?_
            refine lv_topi (fun x_106 ex_106 => ?_)
            have nx_106 : x_106 = nI (w10 % 11) := ex_106.trans (rem_nI nr_5 (rfl : (11 : Int32) = nI 11) (by omega) (by omega) (by omega))
            refine wq_call (va_runS (As := [.ref ox, .ref ad, .ref av, .ref ag, .int 3, .int y_8, .int x_106]) (rest := []) ⟨hx, hb, hml, hown, hts⟩ (m_L_isSeat_cancel l hnt hq hR hJ hB ht (y_8) (x_106) (k9) (w10 % 11) (by omega) (by omega) ek9 nx_106) (va_cwS 7 hts gL_isDone_L_isSeat rfl rfl rfl (by decide +kernel) ⟨Nat.le_of_ble_eq_true rfl, Nat.le_of_ble_eq_true rfl⟩) (wq_pre hK hE hZ hN hw hA) rfl rfl hl.1 rfl (lv_room (Nat.le_of_ble_eq_true rfl)) dL_isDone_342 ⟨(show 0 + 4 ≤ 8 by omega), (show 0 + 24 ≤ 100 by omega)⟩) hw hA (fun r_107 L_107 f_107 fa_107 H locs hp hw => ?_)
            obtain ⟨er, hZ9⟩ := hp
            subst er
            exact wq_zret (b := true) rfl hx hb hr hlocks dL_isDone_345 hw (show 0 + 4 ≤ 8 by omega) (show 0 + 24 ≤ 100 by omega) ⟨rfl, hZ9⟩
        · have nc_99 : ¬ (9 ≤ w8) := fun z => c_99 ((wy_ge nr_1 (rfl : (9 : Int32) = nI 9) (by omega) (by decide)).mpr z)
          refine lv_iconst (v := 2) hx hb dL_isDone_308 (by decide) ?_
          refine lv_goto (tgt := 335) hx hb dL_isDone_309 (by decide) ?_
          refine lv_iload hx hb dL_isDone_335 (lv_at hl 0 rfl) ?_
          refine lv_iload hx hb dL_isDone_337 (lv_at hl 2 rfl) ?_
          refine lv_bipush (v := 11) hx hb dL_isDone_339 (by decide) ?_
          refine lv_irem hx hb dL_isDone_341 (by decide) ?_
          refine lv_topi (fun x_108 ex_108 => ?_)
          have nx_108 : x_108 = nI (w10 % 11) := ex_108.trans (rem_nI nr_5 (rfl : (11 : Int32) = nI 11) (by omega) (by omega) (by omega))
          refine wq_call (va_runS (As := [.ref ox, .ref ad, .ref av, .ref ag, .int 2, .int y_8, .int x_108]) (rest := []) ⟨hx, hb, hml, hown, hts⟩ (m_L_isSeat_book l hnt hq hR hJ hB ht (y_8) (x_108) (k9) (w10 % 11) (by omega) (by omega) ek9 nx_108) (va_cwS 7 hts gL_isDone_L_isSeat rfl rfl rfl (by decide +kernel) ⟨Nat.le_of_ble_eq_true rfl, Nat.le_of_ble_eq_true rfl⟩) (wq_pre hK hE hZ hN hw hA) rfl rfl hl.1 rfl (lv_room (Nat.le_of_ble_eq_true rfl)) dL_isDone_342 ⟨(show 0 + 4 ≤ 8 by omega), (show 0 + 24 ≤ 100 by omega)⟩) hw hA (fun r_109 L_109 f_109 fa_109 H locs hp hw => ?_)
          obtain ⟨er, hZ9⟩ := hp
          subst er
          exact wq_zret (b := true) rfl hx hb hr hlocks dL_isDone_345 hw (show 0 + 4 ≤ 8 by omega) (show 0 + 24 ≤ 100 by omega) ⟨rfl, hZ9⟩
    · have nc_10 : ¬ (6 ≤ w8) := fun z => c_10 ((wy_ge nr_1 (rfl : (6 : Int32) = nI 6) (by omega) (by decide)).mpr z)
      refine lv_iload hx hb dL_isDone_111 (lv_at hl 3 rfl) ?_
      refine lv_bipush (v := 6) hx hb dL_isDone_113 (by decide) ?_
      refine lv_irem hx hb dL_isDone_115 (by decide) ?_
      refine lv_topi (fun x_110 ex_110 => ?_)
      have nx_110 : x_110 = nI (w9 % 6) := ex_110.trans (rem_nI nr_3 (rfl : (6 : Int32) = nI 6) (by omega) (by omega) (by omega))
      refine lv_istore (lv' := [(13, .int x_110), (12, .int y_8), (11, .int r_7), (10, .int r_5), (9, .int r_3), (8, .int r_1), (0, .ref ox), (1, .ref b), (2, .int p2), (3, .ref ad), (4, .ref av), (5, .ref ao), (6, .ref af), (7, .ref ag)]) hx hb dL_isDone_116 hl (by decide) rfl (fun ls hl => ?_)
      refine lv_iconst (v := 0) hx hb dL_isDone_118 (by decide) ?_
      refine lv_istore (lv' := [(14, .int 0), (13, .int x_110), (12, .int y_8), (11, .int r_7), (10, .int r_5), (9, .int r_3), (8, .int r_1), (0, .ref ox), (1, .ref b), (2, .int p2), (3, .ref ad), (4, .ref av), (5, .ref ao), (6, .ref af), (7, .ref ag)]) hx hb dL_isDone_119 hl (by decide) rfl (fun ls hl => ?_)
      refine lv_iconst (v := 0) hx hb dL_isDone_121 (by decide) ?_
      refine lv_istore (lv' := [(15, .int 0), (14, .int 0), (13, .int x_110), (12, .int y_8), (11, .int r_7), (10, .int r_5), (9, .int r_3), (8, .int r_1), (0, .ref ox), (1, .ref b), (2, .int p2), (3, .ref ad), (4, .ref av), (5, .ref ao), (6, .ref af), (7, .ref ag)]) hx hb dL_isDone_122 hl (by decide) rfl (fun ls hl => ?_)
      have KK_i : ∀ (di i : Nat), i + di = n → ∀ (xi_i : Int32), xi_i = nI (i) → ∀ (b_s : Int32), b_s = bI (busB rr x_110 i) → ∀ ls : Array Slot, lv_has ls 16 [(15, .int xi_i), (14, .int b_s), (13, .int x_110), (12, .int y_8), (11, .int r_7), (10, .int r_5), (9, .int r_3), (8, .int r_1), (0, .ref ox), (1, .ref b), (2, .int p2), (3, .ref ad), (4, .ref av), (5, .ref ao), (6, .ref af), (7, .ref ag)] → W p l e (headSpec wsL_isDone ({ frames := 11, cells := 8, slots := 100, locals := 257 } : Room)).room s m ([.ref ox, .ref b, .int p2, .ref ad, .ref av, .ref ao, .ref af, .ref ag] : List Value).toArray below meth c s.heap [] (0) (0) (MQ below (wq_Q G L0 La s.heap.size (fun r1 L1 f1 fa1 => r1 = .int (bI true) ∧ wZ G ox lo ad av ao af ag La (t + 1) L1 f1 fa1)) ([.ref ox, .ref b, .int p2, .ref ad, .ref av, .ref ao, .ref af, .ref ag] : List Value).toArray s 8 100 (wy_A (L0 ++ La) s.heap.size)) (F0 m 124 ls []) := by
        intro di
        induction di with
        | zero =>
          intro i hd_i xi_i ei_i b_s hb_s ls hl
          refine lv_iload hx hb dL_isDone_124 (lv_at hl 0 rfl) ?_
          refine lv_aload hx hb dL_isDone_126 (lv_at hl 15 rfl) ?_
          refine lv_iconst (v := 0) hx hb dL_isDone_128 (by decide) ?_
          refine wy_iald hx hb hK hw.2.1.1 hR.2.2.2.2.1 (0) (rfl : (0 : Int32) = nI 0) (by omega) (by omega) dL_isDone_129 ?_
          refine lv_icmp_ge (tgt := 170) hx hb dL_isDone_130 (by decide) (fun c_111 => ?_) (fun c_111 => ?_)
          · have nc_111 : n ≤ i := (wy_ge ei_i hB.2.2.2.2.2.2.1 (by omega) (by omega)).mp c_111
            obtain rfl : n = i := by omega
            refine lv_aload hx hb dL_isDone_170 (lv_at hl 15 rfl) ?_
            refine lv_iconst (v := 0) hx hb dL_isDone_172 (by decide) ?_
            refine wy_iald hx hb hK hw.2.1.1 hR.2.2.2.2.1 (0) (rfl : (0 : Int32) = nI 0) (by omega) (by omega) dL_isDone_173 ?_
            refine lv_bipush (v := 20) hx hb dL_isDone_174 (by decide) ?_
            refine lv_icmp_ne (tgt := 206) hx hb dL_isDone_176 (by decide) (fun c_112 => ?_) (fun c_112 => ?_)
            · have nc_112 : ¬ (n = 20) := fun z => c_112 ((wy_eq hB.2.2.2.2.2.2.1 (rfl : (20 : Int32) = nI 20) (by omega) (by decide)).mpr z)
              refine lv_iload hx hb dL_isDone_206 (lv_at hl 2 rfl) ?_
              refine lv_iconst (v := 4) hx hb dL_isDone_208 (by decide) ?_
              refine lv_icmp_le (tgt := 217) hx hb dL_isDone_209 (by decide) (fun c_113 => ?_) (fun c_113 => ?_)
              · have nc_113 : w9 % 6 ≤ 4 := (wy_le nx_110 (rfl : (4 : Int32) = nI 4) (by omega) (by decide)).mp c_113
                refine lv_iload hx hb dL_isDone_217 (lv_at hl 1 rfl) ?_
                refine lv_if_eq (tgt := 227) hx hb dL_isDone_219 (by decide) (fun c_114 => ?_) (fun c_114 => ?_)
                · have bc_114 : (busB rr x_110 n) = false := bI_0 (hb_s.symm.trans c_114)
                  refine lv_aload hx hb dL_isDone_227 (lv_at hl 15 rfl) ?_
                  refine lv_iconst (v := 0) hx hb dL_isDone_229 (by decide) ?_
                  refine wy_iald hx hb hK hw.2.1.1 hR.2.2.2.2.1 (0) (rfl : (0 : Int32) = nI 0) (by omega) (by omega) dL_isDone_230 ?_
                  refine lv_istore (lv' := [(15, .int (g 0)), (14, .int b_s), (13, .int x_110), (12, .int y_8), (11, .int r_7), (10, .int r_5), (9, .int r_3), (8, .int r_1), (0, .ref ox), (1, .ref b), (2, .int p2), (3, .ref ad), (4, .ref av), (5, .ref ao), (6, .ref af), (7, .ref ag)]) hx hb dL_isDone_231 hl (by decide) rfl (fun ls hl => ?_)
                  refine lv_aload_n hx hb dL_isDone_233 rfl (lv_at hl 11 rfl) ?_
                  refine lv_aload hx hb dL_isDone_234 (lv_at hl 15 rfl) ?_
                  refine lv_iconst (v := 0) hx hb dL_isDone_236 (by decide) ?_
                  refine wy_iald hx hb hK hw.2.1.1 hR.2.2.2.2.1 (0) (rfl : (0 : Int32) = nI 0) (by omega) (by omega) dL_isDone_237 ?_
                  refine lv_iload hx hb dL_isDone_238 (lv_at hl 0 rfl) ?_
                  refine lv_if_ge (tgt := 247) hx hb dL_isDone_240 (by decide) (fun _ => ?_) (fun z => absurd ((by rw [hB.2.2.2.2.2.2.1]; exact nI_pos' (by omega))) z)
                  refine lv_iload hx hb dL_isDone_247 (lv_at hl 2 rfl) ?_
                  refine wq_iast hx hb hK hw hR.1 (n) hB.2.2.2.2.2.2.1 (by omega) (by omega) dL_isDone_249 (fun H locs fa_115 hc_116 hn_117 hw => ?_)
                  obtain ⟨d_118, hd_118⟩ : ∃ y, y = upd d (n) (x_110) := ⟨_, rfl⟩
                  rw [← hd_118] at hc_116
                  have hc_119 := wy_c.ne2 hR.2.1 hn_117 (Ne.symm hne.1)
                  have hc_120 := wy_c.ne2 hR.2.2.1 hn_117 (Ne.symm hne.2.1)
                  have hc_121 := wy_c.ne2 hR.2.2.2.1 hn_117 (Ne.symm hne.2.2.1)
                  have hc_122 := wy_c.ne2 hR.2.2.2.2.1 hn_117 (Ne.symm hne.2.2.2.1)
                  refine lv_aload hx hb dL_isDone_250 (lv_at hl 15 rfl) ?_
                  refine lv_iconst (v := 0) hx hb dL_isDone_252 (by decide) ?_
                  refine lv_dup2_11 hx hb dL_isDone_253 rfl rfl ?_
                  refine wy_iald hx hb hK hw.2.1.1 hc_122 (0) (rfl : (0 : Int32) = nI 0) (by omega) (by omega) dL_isDone_254 ?_
                  refine lv_iload hx hb dL_isDone_255 (lv_at hl 0 rfl) ?_
                  refine lv_if_ge (tgt := 264) hx hb dL_isDone_257 (by decide) (fun _ => ?_) (fun z => absurd ((by rw [hB.2.2.2.2.2.2.1]; exact nI_pos' (by omega))) z)
                  refine lv_iconst (v := 1) hx hb dL_isDone_264 (by decide) ?_
                  refine lv_iadd hx hb dL_isDone_265 ?_
                  refine lv_topi (fun x_123 ex_123 => ?_)
                  have nx_123 : x_123 = nI (n + 1) := ex_123.trans ((congr (congrArg (fun u v : Int32 => u + v) hB.2.2.2.2.2.2.1) (rfl : (1 : Int32) = nI 1)).trans (nI_add _ _))
                  refine wq_iast hx hb hK hw hc_122 (0) (rfl : (0 : Int32) = nI 0) (by omega) (by omega) dL_isDone_266 (fun H locs fa_124 hc_125 hn_126 hw => ?_)
                  obtain ⟨g_127, hg_127⟩ : ∃ y, y = upd g (0) (x_123) := ⟨_, rfl⟩
                  rw [← hg_127] at hc_125
                  have hc_128 := wy_c.ne2 hc_116 hn_126 hne.2.2.2.1
                  have hc_129 := wy_c.ne2 hc_119 hn_126 hne.2.2.2.2.2.2.1
                  have hc_130 := wy_c.ne2 hc_120 hn_126 hne.2.2.2.2.2.2.2.2.1
                  have hc_131 := wy_c.ne2 hc_121 hn_126 hne.2.2.2.2.2.2.2.2.2
                  refine lv_aload_n hx hb dL_isDone_267 rfl (lv_at hl 8 rfl) ?_
                  refine lv_iconst (v := 1) hx hb dL_isDone_268 (by decide) ?_
                  refine lv_iload hx hb dL_isDone_269 (lv_at hl 2 rfl) ?_
                  refine lv_iconst (v := 0) hx hb dL_isDone_271 (by decide) ?_
                  refine lv_iconst (v := 0) hx hb dL_isDone_272 (by decide) ?_
                  refine lv_iconst (v := 0) hx hb dL_isDone_273 (by decide) ?_
                  have hC_132 : stC rr n x_110 = 0 := by exact stC_0 (okN_of (n := 5) nx_110 (by omega) (by decide)) bc_114 (by omega)
                  refine wq_call0 (vx_runSX (As := [.ref ox, .int 1, .int x_110, .int 0, .int 0, .int (bI false)]) (rest := []) ⟨hx, hb, hml, hown, hts⟩ (m_L_does_start l hnt (fa := fa_124) hq (x_110) (0) (0) (false)) (vx_cwSW 6 hts gL_isDone_L_does rfl rfl rfl (by decide +kernel) ⟨Nat.le_of_ble_eq_true rfl, Nat.le_of_ble_eq_true rfl⟩) (wq_pre0 hK hE hZ hN hw hA) rfl rfl hl.1 rfl (lv_room (Nat.le_of_ble_eq_true rfl)) dL_isDone_274 ⟨(show 0 + 5 ≤ 8 by omega), (show 0 + 100 ≤ 100 by omega)⟩) hw hA (fun r_132 L_132 f_132 fx_132 H locs hp hw => ?_)
                  obtain ⟨er, ra, ar, hq⟩ := wd_ok hp hC_132
                  subst er
                  obtain ⟨rr_133, hrr_133⟩ : ∃ y : Nat → wr_V, y = va_up rr n (vNew x_110 (nI wk)) := ⟨_, rfl⟩
                  rw [← hrr_133] at hq
                  refine lv_iload hx hb dL_isDone_277 (lv_at hl 0 rfl) ?_
                  refine lv_icmp_ne (tgt := 286) hx hb dL_isDone_279 (by decide) (fun z => absurd (hB.2.2.2.2.2.2.1.symm) z) (fun _ => ?_)
                  refine lv_iconst (v := 1) hx hb dL_isDone_282 (by decide) ?_
                  refine lv_goto (tgt := 287) hx hb dL_isDone_283 (by decide) ?_
                  exact wq_zret (b := true) rfl hx hb hr hlocks dL_isDone_287 hw (show 0 + 5 ≤ 8 by omega) (show 0 + 100 ≤ 100 by omega) ⟨rfl, ra, ar, n + 1, km, mn, wk, po, rr_133, d_118, v, o, fr, g_127, hq, ⟨hc_128, hc_129, hc_130, hc_131, hc_125, hne⟩, (by rw [hrr_133]; exact J_new hJ (by omega) nx_110 (by omega) bc_114), (by rw [hrr_133]; exact B_new hB hJ (by omega) hd_118 hg_127 nx_123)⟩
                · have bc_114 : (busB rr x_110 n) = true := bI_1 (fun z => c_114 (hb_s.trans z))
                  refine lv_bipush (v := (-10)) hx hb dL_isDone_222 (by decide) ?_
                  refine lv_goto (tgt := 231) hx hb dL_isDone_224 (by decide) ?_
                  refine lv_istore (lv' := [(15, .int (-10)), (14, .int b_s), (13, .int x_110), (12, .int y_8), (11, .int r_7), (10, .int r_5), (9, .int r_3), (8, .int r_1), (0, .ref ox), (1, .ref b), (2, .int p2), (3, .ref ad), (4, .ref av), (5, .ref ao), (6, .ref af), (7, .ref ag)]) hx hb dL_isDone_231 hl (by decide) rfl (fun ls hl => ?_)
                  refine lv_aload_n hx hb dL_isDone_233 rfl (lv_at hl 11 rfl) ?_
                  refine lv_aload hx hb dL_isDone_234 (lv_at hl 15 rfl) ?_
                  refine lv_iconst (v := 0) hx hb dL_isDone_236 (by decide) ?_
                  refine wy_iald hx hb hK hw.2.1.1 hR.2.2.2.2.1 (0) (rfl : (0 : Int32) = nI 0) (by omega) (by omega) dL_isDone_237 ?_
                  refine lv_iload hx hb dL_isDone_238 (lv_at hl 0 rfl) ?_
                  refine lv_if_ge (tgt := 247) hx hb dL_isDone_240 (by decide) (fun z => absurd z (by decide)) (fun _ => ?_)
                  refine lv_iconst (v := 0) hx hb dL_isDone_243 (by decide) ?_
                  refine lv_goto (tgt := 249) hx hb dL_isDone_244 (by decide) ?_
                  refine wq_iast hx hb hK hw hR.1 (n) hB.2.2.2.2.2.2.1 (by omega) (by omega) dL_isDone_249 (fun H locs fa_134 hc_135 hn_136 hw => ?_)
                  obtain ⟨d_137, hd_137⟩ : ∃ y, y = upd d (n) (0) := ⟨_, rfl⟩
                  rw [← hd_137] at hc_135
                  have hc_138 := wy_c.ne2 hR.2.1 hn_136 (Ne.symm hne.1)
                  have hc_139 := wy_c.ne2 hR.2.2.1 hn_136 (Ne.symm hne.2.1)
                  have hc_140 := wy_c.ne2 hR.2.2.2.1 hn_136 (Ne.symm hne.2.2.1)
                  have hc_141 := wy_c.ne2 hR.2.2.2.2.1 hn_136 (Ne.symm hne.2.2.2.1)
                  refine lv_aload hx hb dL_isDone_250 (lv_at hl 15 rfl) ?_
                  refine lv_iconst (v := 0) hx hb dL_isDone_252 (by decide) ?_
                  refine lv_dup2_11 hx hb dL_isDone_253 rfl rfl ?_
                  refine wy_iald hx hb hK hw.2.1.1 hc_141 (0) (rfl : (0 : Int32) = nI 0) (by omega) (by omega) dL_isDone_254 ?_
                  refine lv_iload hx hb dL_isDone_255 (lv_at hl 0 rfl) ?_
                  refine lv_if_ge (tgt := 264) hx hb dL_isDone_257 (by decide) (fun z => absurd z (by decide)) (fun _ => ?_)
                  refine lv_iconst (v := 0) hx hb dL_isDone_260 (by decide) ?_
                  refine lv_goto (tgt := 265) hx hb dL_isDone_261 (by decide) ?_
                  refine lv_iadd hx hb dL_isDone_265 ?_
                  refine lv_topi (fun x_142 ex_142 => ?_)
                  have nx_142 : x_142 = nI (n + 0) := ex_142.trans ((congr (congrArg (fun u v : Int32 => u + v) hB.2.2.2.2.2.2.1) (rfl : (0 : Int32) = nI 0)).trans (nI_add _ _))
                  refine wq_iast hx hb hK hw hc_141 (0) (rfl : (0 : Int32) = nI 0) (by omega) (by omega) dL_isDone_266 (fun H locs fa_143 hc_144 hn_145 hw => ?_)
                  obtain ⟨g_146, hg_146⟩ : ∃ y, y = upd g (0) (x_142) := ⟨_, rfl⟩
                  rw [← hg_146] at hc_144
                  have hc_147 := wy_c.ne2 hc_135 hn_145 hne.2.2.2.1
                  have hc_148 := wy_c.ne2 hc_138 hn_145 hne.2.2.2.2.2.2.1
                  have hc_149 := wy_c.ne2 hc_139 hn_145 hne.2.2.2.2.2.2.2.2.1
                  have hc_150 := wy_c.ne2 hc_140 hn_145 hne.2.2.2.2.2.2.2.2.2
                  refine lv_aload_n hx hb dL_isDone_267 rfl (lv_at hl 8 rfl) ?_
                  refine lv_iconst (v := 1) hx hb dL_isDone_268 (by decide) ?_
                  refine lv_iload hx hb dL_isDone_269 (lv_at hl 2 rfl) ?_
                  refine lv_iconst (v := 0) hx hb dL_isDone_271 (by decide) ?_
                  refine lv_iconst (v := 0) hx hb dL_isDone_272 (by decide) ?_
                  refine lv_iconst (v := 0) hx hb dL_isDone_273 (by decide) ?_
                  have hC_151 : stC rr n x_110 = 2 := by exact stC_2 (okN_of (n := 5) nx_110 (by omega) (by decide)) bc_114
                  refine wq_call0 (vx_runSX (As := [.ref ox, .int 1, .int x_110, .int 0, .int 0, .int (bI false)]) (rest := []) ⟨hx, hb, hml, hown, hts⟩ (m_L_does_start l hnt (fa := fa_143) hq (x_110) (0) (0) (false)) (vx_cwSW 6 hts gL_isDone_L_does rfl rfl rfl (by decide +kernel) ⟨Nat.le_of_ble_eq_true rfl, Nat.le_of_ble_eq_true rfl⟩) (wq_pre0 hK hE hZ hN hw hA) rfl rfl hl.1 rfl (lv_room (Nat.le_of_ble_eq_true rfl)) dL_isDone_274 ⟨(show 0 + 5 ≤ 8 by omega), (show 0 + 100 ≤ 100 by omega)⟩) hw hA (fun r_151 L_151 f_151 fx_151 H locs hp hw => ?_)
                  obtain ⟨er, hq⟩ := wd_er hp (by rw [hC_151]; decide) hq
                  have er : r_151 = .int (-10) := er.trans (congrArg Value.int (by rw [hC_151]; decide))
                  subst er
                  refine lv_iload hx hb dL_isDone_277 (lv_at hl 0 rfl) ?_
                  refine lv_icmp_ne (tgt := 286) hx hb dL_isDone_279 (by decide) (fun z => absurd z (by decide)) (fun _ => ?_)
                  refine lv_iconst (v := 1) hx hb dL_isDone_282 (by decide) ?_
                  refine lv_goto (tgt := 287) hx hb dL_isDone_283 (by decide) ?_
                  exact wq_zret (b := true) rfl hx hb hr hlocks dL_isDone_287 hw (show 0 + 5 ≤ 8 by omega) (show 0 + 100 ≤ 100 by omega) ⟨rfl, ra, ar, n, km, mn, wk, po, rr, d_137, v, o, fr, g_146, hq, ⟨hc_147, hc_148, hc_149, hc_150, hc_144, hne⟩, hJ.up, B_dn hB (by omega) hd_137 (hg_146.trans (by rw [ex_142]))⟩
              · have nc_113 : ¬ (w9 % 6 ≤ 4) := fun z => c_113 ((wy_le nx_110 (rfl : (4 : Int32) = nI 4) (by omega) (by decide)).mpr z)
                refine lv_bipush (v := (-30)) hx hb dL_isDone_212 (by decide) ?_
                refine lv_goto (tgt := 231) hx hb dL_isDone_214 (by decide) ?_
                refine lv_istore (lv' := [(15, .int (-30)), (14, .int b_s), (13, .int x_110), (12, .int y_8), (11, .int r_7), (10, .int r_5), (9, .int r_3), (8, .int r_1), (0, .ref ox), (1, .ref b), (2, .int p2), (3, .ref ad), (4, .ref av), (5, .ref ao), (6, .ref af), (7, .ref ag)]) hx hb dL_isDone_231 hl (by decide) rfl (fun ls hl => ?_)
                refine lv_aload_n hx hb dL_isDone_233 rfl (lv_at hl 11 rfl) ?_
                refine lv_aload hx hb dL_isDone_234 (lv_at hl 15 rfl) ?_
                refine lv_iconst (v := 0) hx hb dL_isDone_236 (by decide) ?_
                refine wy_iald hx hb hK hw.2.1.1 hR.2.2.2.2.1 (0) (rfl : (0 : Int32) = nI 0) (by omega) (by omega) dL_isDone_237 ?_
                refine lv_iload hx hb dL_isDone_238 (lv_at hl 0 rfl) ?_
                refine lv_if_ge (tgt := 247) hx hb dL_isDone_240 (by decide) (fun z => absurd z (by decide)) (fun _ => ?_)
                refine lv_iconst (v := 0) hx hb dL_isDone_243 (by decide) ?_
                refine lv_goto (tgt := 249) hx hb dL_isDone_244 (by decide) ?_
                refine wq_iast hx hb hK hw hR.1 (n) hB.2.2.2.2.2.2.1 (by omega) (by omega) dL_isDone_249 (fun H locs fa_152 hc_153 hn_154 hw => ?_)
                obtain ⟨d_155, hd_155⟩ : ∃ y, y = upd d (n) (0) := ⟨_, rfl⟩
                rw [← hd_155] at hc_153
                have hc_156 := wy_c.ne2 hR.2.1 hn_154 (Ne.symm hne.1)
                have hc_157 := wy_c.ne2 hR.2.2.1 hn_154 (Ne.symm hne.2.1)
                have hc_158 := wy_c.ne2 hR.2.2.2.1 hn_154 (Ne.symm hne.2.2.1)
                have hc_159 := wy_c.ne2 hR.2.2.2.2.1 hn_154 (Ne.symm hne.2.2.2.1)
                refine lv_aload hx hb dL_isDone_250 (lv_at hl 15 rfl) ?_
                refine lv_iconst (v := 0) hx hb dL_isDone_252 (by decide) ?_
                refine lv_dup2_11 hx hb dL_isDone_253 rfl rfl ?_
                refine wy_iald hx hb hK hw.2.1.1 hc_159 (0) (rfl : (0 : Int32) = nI 0) (by omega) (by omega) dL_isDone_254 ?_
                refine lv_iload hx hb dL_isDone_255 (lv_at hl 0 rfl) ?_
                refine lv_if_ge (tgt := 264) hx hb dL_isDone_257 (by decide) (fun z => absurd z (by decide)) (fun _ => ?_)
                refine lv_iconst (v := 0) hx hb dL_isDone_260 (by decide) ?_
                refine lv_goto (tgt := 265) hx hb dL_isDone_261 (by decide) ?_
                refine lv_iadd hx hb dL_isDone_265 ?_
                refine lv_topi (fun x_160 ex_160 => ?_)
                have nx_160 : x_160 = nI (n + 0) := ex_160.trans ((congr (congrArg (fun u v : Int32 => u + v) hB.2.2.2.2.2.2.1) (rfl : (0 : Int32) = nI 0)).trans (nI_add _ _))
                refine wq_iast hx hb hK hw hc_159 (0) (rfl : (0 : Int32) = nI 0) (by omega) (by omega) dL_isDone_266 (fun H locs fa_161 hc_162 hn_163 hw => ?_)
                obtain ⟨g_164, hg_164⟩ : ∃ y, y = upd g (0) (x_160) := ⟨_, rfl⟩
                rw [← hg_164] at hc_162
                have hc_165 := wy_c.ne2 hc_153 hn_163 hne.2.2.2.1
                have hc_166 := wy_c.ne2 hc_156 hn_163 hne.2.2.2.2.2.2.1
                have hc_167 := wy_c.ne2 hc_157 hn_163 hne.2.2.2.2.2.2.2.2.1
                have hc_168 := wy_c.ne2 hc_158 hn_163 hne.2.2.2.2.2.2.2.2.2
                refine lv_aload_n hx hb dL_isDone_267 rfl (lv_at hl 8 rfl) ?_
                refine lv_iconst (v := 1) hx hb dL_isDone_268 (by decide) ?_
                refine lv_iload hx hb dL_isDone_269 (lv_at hl 2 rfl) ?_
                refine lv_iconst (v := 0) hx hb dL_isDone_271 (by decide) ?_
                refine lv_iconst (v := 0) hx hb dL_isDone_272 (by decide) ?_
                refine lv_iconst (v := 0) hx hb dL_isDone_273 (by decide) ?_
                have hC_169 : stC rr n x_110 = 1 := by exact stC_1 (by rw [nx_110]; exact okN_out (n := 5) (by omega) (by omega))
                refine wq_call0 (vx_runSX (As := [.ref ox, .int 1, .int x_110, .int 0, .int 0, .int (bI false)]) (rest := []) ⟨hx, hb, hml, hown, hts⟩ (m_L_does_start l hnt (fa := fa_161) hq (x_110) (0) (0) (false)) (vx_cwSW 6 hts gL_isDone_L_does rfl rfl rfl (by decide +kernel) ⟨Nat.le_of_ble_eq_true rfl, Nat.le_of_ble_eq_true rfl⟩) (wq_pre0 hK hE hZ hN hw hA) rfl rfl hl.1 rfl (lv_room (Nat.le_of_ble_eq_true rfl)) dL_isDone_274 ⟨(show 0 + 5 ≤ 8 by omega), (show 0 + 100 ≤ 100 by omega)⟩) hw hA (fun r_169 L_169 f_169 fx_169 H locs hp hw => ?_)
                obtain ⟨er, hq⟩ := wd_er hp (by rw [hC_169]; decide) hq
                have er : r_169 = .int (-30) := er.trans (congrArg Value.int (by rw [hC_169]; decide))
                subst er
                refine lv_iload hx hb dL_isDone_277 (lv_at hl 0 rfl) ?_
                refine lv_icmp_ne (tgt := 286) hx hb dL_isDone_279 (by decide) (fun z => absurd z (by decide)) (fun _ => ?_)
                refine lv_iconst (v := 1) hx hb dL_isDone_282 (by decide) ?_
                refine lv_goto (tgt := 287) hx hb dL_isDone_283 (by decide) ?_
                exact wq_zret (b := true) rfl hx hb hr hlocks dL_isDone_287 hw (show 0 + 5 ≤ 8 by omega) (show 0 + 100 ≤ 100 by omega) ⟨rfl, ra, ar, n, km, mn, wk, po, rr, d_155, v, o, fr, g_164, hq, ⟨hc_165, hc_166, hc_167, hc_168, hc_162, hne⟩, hJ.up, B_dn hB (by omega) hd_155 (hg_164.trans (by rw [ex_160]))⟩
            · have nc_112 : n = 20 := (wy_eq hB.2.2.2.2.2.2.1 (rfl : (20 : Int32) = nI 20) (by omega) (by decide)).mp c_112
              refine lv_iload hx hb dL_isDone_179 (lv_at hl 2 rfl) ?_
              refine lv_iconst (v := 5) hx hb dL_isDone_181 (by decide) ?_
              refine lv_icmp_lt (tgt := 200) hx hb dL_isDone_182 (by decide) (fun c_170 => ?_) (fun c_170 => ?_)
              · have nc_170 : w9 % 6 < 5 := (wy_lt nx_110 (rfl : (5 : Int32) = nI 5) (by omega) (by decide)).mp c_170
                refine lv_iconst (v := 1) hx hb dL_isDone_200 (by decide) ?_
                refine lv_goto (tgt := 205) hx hb dL_isDone_201 (by decide) ?_
                exact wq_zret (b := true) rfl hx hb hr hlocks dL_isDone_205 hw (show 0 ≤ 8 by omega) (show 0 ≤ 100 by omega) ⟨rfl, ra, ar, n, km, mn, wk, po, rr, d, v, o, fr, g, hq, ⟨hR.1, hR.2.1, hR.2.2.1, hR.2.2.2.1, hR.2.2.2.2.1, hne⟩, hJ.up, hB⟩
              · have nc_170 : ¬ (w9 % 6 < 5) := fun z => c_170 ((wy_lt nx_110 (rfl : (5 : Int32) = nI 5) (by omega) (by decide)).mpr z)
                refine lv_aload_n hx hb dL_isDone_185 rfl (lv_at hl 8 rfl) ?_
                refine lv_iconst (v := 1) hx hb dL_isDone_186 (by decide) ?_
                refine lv_iload hx hb dL_isDone_187 (lv_at hl 2 rfl) ?_
                refine lv_iconst (v := 0) hx hb dL_isDone_189 (by decide) ?_
                refine lv_iconst (v := 0) hx hb dL_isDone_190 (by decide) ?_
                refine lv_iconst (v := 0) hx hb dL_isDone_191 (by decide) ?_
                have hC_171 : stC rr n x_110 = 1 := by exact stC_1 (by rw [nx_110]; exact okN_out (n := 5) (by omega) (by omega))
                refine wq_call0 (vx_runSX (As := [.ref ox, .int 1, .int x_110, .int 0, .int 0, .int (bI false)]) (rest := []) ⟨hx, hb, hml, hown, hts⟩ (m_L_does_start l hnt (fa := fa) hq (x_110) (0) (0) (false)) (vx_cwSW 6 hts gL_isDone_L_does rfl rfl rfl (by decide +kernel) ⟨Nat.le_of_ble_eq_true rfl, Nat.le_of_ble_eq_true rfl⟩) (wq_pre0 hK hE hZ hN hw hA) rfl rfl hl.1 rfl (lv_room (Nat.le_of_ble_eq_true rfl)) dL_isDone_192 ⟨(show 0 + 5 ≤ 8 by omega), (show 0 + 100 ≤ 100 by omega)⟩) hw hA (fun r_171 L_171 f_171 fx_171 H locs hp hw => ?_)
                obtain ⟨er, hq⟩ := wd_er hp (by rw [hC_171]; decide) hq
                have er : r_171 = .int (-30) := er.trans (congrArg Value.int (by rw [hC_171]; decide))
                subst er
                refine lv_bipush (v := (-30)) hx hb dL_isDone_195 (by decide) ?_
                refine lv_icmp_ne (tgt := 204) hx hb dL_isDone_197 (by decide) (fun z => absurd z (by decide)) (fun _ => ?_)
                refine lv_iconst (v := 1) hx hb dL_isDone_200 (by decide) ?_
                refine lv_goto (tgt := 205) hx hb dL_isDone_201 (by decide) ?_
                exact wq_zret (b := true) rfl hx hb hr hlocks dL_isDone_205 hw (show 0 + 5 ≤ 8 by omega) (show 0 + 100 ≤ 100 by omega) ⟨rfl, ra, ar, n, km, mn, wk, po, rr, d, v, o, fr, g, hq, ⟨hR.1, hR.2.1, hR.2.2.1, hR.2.2.2.1, hR.2.2.2.2.1, hne⟩, hJ.up, hB⟩
          · have nc_111 : ¬ (n ≤ i) := fun z => c_111 ((wy_ge ei_i hB.2.2.2.2.2.2.1 (by omega) (by omega)).mpr z)
            exact absurd nc_111 (by omega)
        | succ di ih_di =>
          intro i hd_i xi_i ei_i b_s hb_s ls hl
          refine lv_iload hx hb dL_isDone_124 (lv_at hl 0 rfl) ?_
          refine lv_aload hx hb dL_isDone_126 (lv_at hl 15 rfl) ?_
          refine lv_iconst (v := 0) hx hb dL_isDone_128 (by decide) ?_
          refine wy_iald hx hb hK hw.2.1.1 hR.2.2.2.2.1 (0) (rfl : (0 : Int32) = nI 0) (by omega) (by omega) dL_isDone_129 ?_
          refine lv_icmp_ge (tgt := 170) hx hb dL_isDone_130 (by decide) (fun c_172 => ?_) (fun c_172 => ?_)
          · have nc_172 : n ≤ i := (wy_ge ei_i hB.2.2.2.2.2.2.1 (by omega) (by omega)).mp c_172
            exact absurd nc_172 (by omega)
          · have nc_172 : ¬ (n ≤ i) := fun z => c_172 ((wy_ge ei_i hB.2.2.2.2.2.2.1 (by omega) (by omega)).mpr z)
            refine lv_iload hx hb dL_isDone_133 (lv_at hl 1 rfl) ?_
            refine lv_if_ne (tgt := 157) hx hb dL_isDone_135 (by decide) (fun c_173 => ?_) (fun c_173 => ?_)
            · have bc_173 : (busB rr x_110 i) = true := bI_1 (fun z => c_173 (hb_s.trans z))
              refine lv_iconst (v := 1) hx hb dL_isDone_157 (by decide) ?_
              refine lv_goto (tgt := 162) hx hb dL_isDone_158 (by decide) ?_
              refine lv_istore (lv' := [(14, .int 1), (15, .int xi_i), (13, .int x_110), (12, .int y_8), (11, .int r_7), (10, .int r_5), (9, .int r_3), (8, .int r_1), (0, .ref ox), (1, .ref b), (2, .int p2), (3, .ref ad), (4, .ref av), (5, .ref ao), (6, .ref af), (7, .ref ag)]) hx hb dL_isDone_162 hl (by decide) rfl (fun ls hl => ?_)
              obtain ⟨x_174, ex_174⟩ : ∃ y : Int32, y = xi_i + 1 := ⟨_, rfl⟩
              have nx_174 : x_174 = nI (i + 1) := by rw [ex_174, ei_i, nI_1]
              refine lv_iinc (v := x_174) (lv' := [(15, .int x_174), (14, .int 1), (13, .int x_110), (12, .int y_8), (11, .int r_7), (10, .int r_5), (9, .int r_3), (8, .int r_1), (0, .ref ox), (1, .ref b), (2, .int p2), (3, .ref ad), (4, .ref av), (5, .ref ao), (6, .ref af), (7, .ref ag)]) hx hb dL_isDone_164 hl (k := 1) rfl (by rw [ex_174]; rfl) (by decide) rfl (fun ls hl => ?_)
              refine lv_goto (tgt := 124) hx hb dL_isDone_167 (by decide) ?_
              exact ih_di (i + 1) (by omega) _ nx_174 _ (bus_1 bc_173) ls (lv_sub hl [0, 1, 2, 3, 4, 5, 6, 7, 8, 9, 10, 11, 12, 13, 14, 15] rfl)
            · have bc_173 : (busB rr x_110 i) = false := bI_0 (hb_s.symm.trans c_173)
              refine lv_aload_n hx hb dL_isDone_138 rfl (lv_at hl 11 rfl) ?_
              refine lv_iload hx hb dL_isDone_139 (lv_at hl 0 rfl) ?_
              refine wy_iald hx hb hK hw.2.1.1 hR.1 (i) ei_i (by omega) (by omega) dL_isDone_141 ?_
              refine lv_iload hx hb dL_isDone_142 (lv_at hl 2 rfl) ?_
              refine lv_icmp_ne (tgt := 161) hx hb dL_isDone_144 (by decide) (fun c_175 => ?_) (fun c_175 => ?_)
              · refine lv_iconst (v := 0) hx hb dL_isDone_161 (by decide) ?_
                refine lv_istore (lv' := [(14, .int 0), (15, .int xi_i), (13, .int x_110), (12, .int y_8), (11, .int r_7), (10, .int r_5), (9, .int r_3), (8, .int r_1), (0, .ref ox), (1, .ref b), (2, .int p2), (3, .ref ad), (4, .ref av), (5, .ref ao), (6, .ref af), (7, .ref ag)]) hx hb dL_isDone_162 hl (by decide) rfl (fun ls hl => ?_)
                obtain ⟨x_176, ex_176⟩ : ∃ y : Int32, y = xi_i + 1 := ⟨_, rfl⟩
                have nx_176 : x_176 = nI (i + 1) := by rw [ex_176, ei_i, nI_1]
                refine lv_iinc (v := x_176) (lv' := [(15, .int x_176), (14, .int 0), (13, .int x_110), (12, .int y_8), (11, .int r_7), (10, .int r_5), (9, .int r_3), (8, .int r_1), (0, .ref ox), (1, .ref b), (2, .int p2), (3, .ref ad), (4, .ref av), (5, .ref ao), (6, .ref af), (7, .ref ag)]) hx hb dL_isDone_164 hl (k := 1) rfl (by rw [ex_176]; rfl) (by decide) rfl (fun ls hl => ?_)
                refine lv_goto (tgt := 124) hx hb dL_isDone_167 (by decide) ?_
                exact ih_di (i + 1) (by omega) _ nx_176 _ (bus_n1 bc_173 (fun z => c_175 ((hB.1 i (by omega)).trans z))) ls (lv_sub hl [0, 1, 2, 3, 4, 5, 6, 7, 8, 9, 10, 11, 12, 13, 14, 15] rfl)
              · refine lv_aload_n hx hb dL_isDone_147 rfl (lv_at hl 11 rfl) ?_
                refine lv_bipush (v := 20) hx hb dL_isDone_148 (by decide) ?_
                refine lv_iload hx hb dL_isDone_150 (lv_at hl 0 rfl) ?_
                refine lv_iadd hx hb dL_isDone_152 ?_
                refine lv_topi (fun x_177 ex_177 => ?_)
                have nx_177 : x_177 = nI (20 + i) := ex_177.trans ((congr (congrArg (fun u v : Int32 => u + v) (rfl : (20 : Int32) = nI 20)) ei_i).trans (nI_add _ _))
                refine wy_iald hx hb hK hw.2.1.1 hR.1 (20 + i) nx_177 (by omega) (by omega) dL_isDone_153 ?_
                refine lv_if_ne (tgt := 161) hx hb dL_isDone_154 (by decide) (fun c_178 => ?_) (fun c_178 => ?_)
                · have bc_178 : (rfi (rr i)) = true := bI_1 (fun z => c_178 ((hB.2.1 (i) (by omega)).trans z))
                  refine lv_iconst (v := 0) hx hb dL_isDone_161 (by decide) ?_
                  refine lv_istore (lv' := [(14, .int 0), (15, .int xi_i), (13, .int x_110), (12, .int y_8), (11, .int r_7), (10, .int r_5), (9, .int r_3), (8, .int r_1), (0, .ref ox), (1, .ref b), (2, .int p2), (3, .ref ad), (4, .ref av), (5, .ref ao), (6, .ref af), (7, .ref ag)]) hx hb dL_isDone_162 hl (by decide) rfl (fun ls hl => ?_)
                  obtain ⟨x_179, ex_179⟩ : ∃ y : Int32, y = xi_i + 1 := ⟨_, rfl⟩
                  have nx_179 : x_179 = nI (i + 1) := by rw [ex_179, ei_i, nI_1]
                  refine lv_iinc (v := x_179) (lv' := [(15, .int x_179), (14, .int 0), (13, .int x_110), (12, .int y_8), (11, .int r_7), (10, .int r_5), (9, .int r_3), (8, .int r_1), (0, .ref ox), (1, .ref b), (2, .int p2), (3, .ref ad), (4, .ref av), (5, .ref ao), (6, .ref af), (7, .ref ag)]) hx hb dL_isDone_164 hl (k := 1) rfl (by rw [ex_179]; rfl) (by decide) rfl (fun ls hl => ?_)
                  refine lv_goto (tgt := 124) hx hb dL_isDone_167 (by decide) ?_
                  exact ih_di (i + 1) (by omega) _ nx_179 _ (bus_n2 bc_173 bc_178) ls (lv_sub hl [0, 1, 2, 3, 4, 5, 6, 7, 8, 9, 10, 11, 12, 13, 14, 15] rfl)
                · have bc_178 : (rfi (rr i)) = false := bI_0 ((hB.2.1 (i) (by omega)).symm.trans c_178)
                  refine lv_iconst (v := 1) hx hb dL_isDone_157 (by decide) ?_
                  refine lv_goto (tgt := 162) hx hb dL_isDone_158 (by decide) ?_
                  refine lv_istore (lv' := [(14, .int 1), (15, .int xi_i), (13, .int x_110), (12, .int y_8), (11, .int r_7), (10, .int r_5), (9, .int r_3), (8, .int r_1), (0, .ref ox), (1, .ref b), (2, .int p2), (3, .ref ad), (4, .ref av), (5, .ref ao), (6, .ref af), (7, .ref ag)]) hx hb dL_isDone_162 hl (by decide) rfl (fun ls hl => ?_)
                  obtain ⟨x_180, ex_180⟩ : ∃ y : Int32, y = xi_i + 1 := ⟨_, rfl⟩
                  have nx_180 : x_180 = nI (i + 1) := by rw [ex_180, ei_i, nI_1]
                  refine lv_iinc (v := x_180) (lv' := [(15, .int x_180), (14, .int 1), (13, .int x_110), (12, .int y_8), (11, .int r_7), (10, .int r_5), (9, .int r_3), (8, .int r_1), (0, .ref ox), (1, .ref b), (2, .int p2), (3, .ref ad), (4, .ref av), (5, .ref ao), (6, .ref af), (7, .ref ag)]) hx hb dL_isDone_164 hl (k := 1) rfl (by rw [ex_180]; rfl) (by decide) rfl (fun ls hl => ?_)
                  refine lv_goto (tgt := 124) hx hb dL_isDone_167 (by decide) ?_
                  exact ih_di (i + 1) (by omega) _ nx_180 _ (bus_e ((hB.1 i (by omega)).symm.trans c_175) bc_178) ls (lv_sub hl [0, 1, 2, 3, 4, 5, 6, 7, 8, 9, 10, 11, 12, 13, 14, 15] rfl)
      exact KK_i (n) 0 (by omega) _ rfl _ rfl ls (lv_sub hl [0, 1, 2, 3, 4, 5, 6, 7, 8, 9, 10, 11, 12, 13, 14, 15] rfl)
  refine lv_aload hx hb dL_isDone_45 (lv_at hl 11 rfl) ?_
  refine lv_iconst (v := 0) hx hb dL_isDone_47 (by decide) ?_
  refine wy_iald hx hb hK hw.2.1.1 hR.2.2.2.2.1 (0) (rfl : (0 : Int32) = nI 0) (by omega) (by omega) dL_isDone_48 ?_
  refine lv_if_ne (tgt := 56) hx hb dL_isDone_49 (by decide) (fun c_181 => ?_) (fun c_181 => ?_)
  · have hn0 : 0 < n := n_p hB.2.2.2.2.2.2.1 c_181
    refine lv_iload hx hb dL_isDone_56 (lv_at hl 0 rfl) ?_
    refine lv_bipush (v := 9) hx hb dL_isDone_58 (by decide) ?_
    refine lv_irem hx hb dL_isDone_60 (by decide) ?_
    refine lv_topi (fun x_182 ex_182 => ?_)
    have nx_182 : x_182 = nI (w11 % 9) := ex_182.trans (rem_nI nr_7 (rfl : (9 : Int32) = nI 9) (by omega) (by omega) (by omega))
    refine lv_if_ne (tgt := 76) hx hb dL_isDone_61 (by decide) (fun c_183 => ?_) (fun c_183 => ?_)
    · refine lv_aload hx hb dL_isDone_76 (lv_at hl 11 rfl) ?_
      refine lv_iconst (v := 0) hx hb dL_isDone_78 (by decide) ?_
      refine wy_iald hx hb hK hw.2.1.1 hR.2.2.2.2.1 (0) (rfl : (0 : Int32) = nI 0) (by omega) (by omega) dL_isDone_79 ?_
      refine lv_iconst (v := 1) hx hb dL_isDone_80 (by decide) ?_
      refine lv_isub hx hb dL_isDone_81 ?_
      refine lv_topi (fun x_184 ex_184 => ?_)
      have nx_184 : x_184 = nI (n - 1) := ex_184.trans (sub_nI hB.2.2.2.2.2.2.1 (rfl : (1 : Int32) = nI 1) (by omega))
      refine lv_iload hx hb dL_isDone_82 (lv_at hl 2 rfl) ?_
      refine lv_aload hx hb dL_isDone_84 (lv_at hl 11 rfl) ?_
      refine lv_iconst (v := 0) hx hb dL_isDone_86 (by decide) ?_
      refine wy_iald hx hb hK hw.2.1.1 hR.2.2.2.2.1 (0) (rfl : (0 : Int32) = nI 0) (by omega) (by omega) dL_isDone_87 ?_
      refine lv_iconst (v := 3) hx hb dL_isDone_88 (by decide) ?_
      refine lv_icmp_le (tgt := 96) hx hb dL_isDone_89 (by decide) (fun c_185 => ?_) (fun c_185 => ?_)
      · have nc_185 : n ≤ 3 := (wy_le hB.2.2.2.2.2.2.1 (rfl : (3 : Int32) = nI 3) (by omega) (by decide)).mp c_185
        refine lv_aload hx hb dL_isDone_96 (lv_at hl 11 rfl) ?_
        refine lv_iconst (v := 0) hx hb dL_isDone_98 (by decide) ?_
        refine wy_iald hx hb hK hw.2.1.1 hR.2.2.2.2.1 (0) (rfl : (0 : Int32) = nI 0) (by omega) (by omega) dL_isDone_99 ?_
        refine lv_irem hx hb dL_isDone_100 (n_nz hB.2.2.2.2.2.2.1 (by omega) (by omega)) ?_
        refine lv_topi (fun x_186 ex_186 => ?_)
        have nx_186 : x_186 = nI (w9 % n) := ex_186.trans (rem_nI nr_3 hB.2.2.2.2.2.2.1 (by omega) (by omega) (by omega))
        refine lv_isub hx hb dL_isDone_101 ?_
        have hmd := Nat.mod_lt w9 hn0
        refine lv_topi (fun x_187 ex_187 => ?_)
        have nx_187 : x_187 = nI ((n - 1) - (w9 % n)) := ex_187.trans (sub_nI nx_184 nx_186 (by omega))
        exact JN_9 _ ⟨_, by omega, nx_187⟩ ls (lv_sub hl [0, 1, 2, 3, 4, 5, 6, 7, 8, 9, 10, 11] rfl)
      · have nc_185 : ¬ (n ≤ 3) := fun z => c_185 ((wy_le hB.2.2.2.2.2.2.1 (rfl : (3 : Int32) = nI 3) (by omega) (by decide)).mpr z)
        refine lv_iconst (v := 3) hx hb dL_isDone_92 (by decide) ?_
        refine lv_goto (tgt := 100) hx hb dL_isDone_93 (by decide) ?_
        refine lv_irem hx hb dL_isDone_100 (by decide) ?_
        refine lv_topi (fun x_188 ex_188 => ?_)
        have nx_188 : x_188 = nI (w9 % 3) := ex_188.trans (rem_nI nr_3 (rfl : (3 : Int32) = nI 3) (by omega) (by omega) (by omega))
        refine lv_isub hx hb dL_isDone_101 ?_
        have hmd := Nat.mod_lt w9 hn0
        refine lv_topi (fun x_189 ex_189 => ?_)
        have nx_189 : x_189 = nI ((n - 1) - (w9 % 3)) := ex_189.trans (sub_nI nx_184 nx_188 (by omega))
        exact JN_9 _ ⟨_, by omega, nx_189⟩ ls (lv_sub hl [0, 1, 2, 3, 4, 5, 6, 7, 8, 9, 10, 11] rfl)
    · refine lv_iload hx hb dL_isDone_64 (lv_at hl 2 rfl) ?_
      refine lv_aload hx hb dL_isDone_66 (lv_at hl 11 rfl) ?_
      refine lv_iconst (v := 0) hx hb dL_isDone_68 (by decide) ?_
      refine wy_iald hx hb hK hw.2.1.1 hR.2.2.2.2.1 (0) (rfl : (0 : Int32) = nI 0) (by omega) (by omega) dL_isDone_69 ?_
      refine lv_iconst (v := 1) hx hb dL_isDone_70 (by decide) ?_
      refine lv_iadd hx hb dL_isDone_71 ?_
      refine lv_topi (fun x_190 ex_190 => ?_)
      have nx_190 : x_190 = nI (n + 1) := ex_190.trans ((congr (congrArg (fun u v : Int32 => u + v) hB.2.2.2.2.2.2.1) (rfl : (1 : Int32) = nI 1)).trans (nI_add _ _))
      refine lv_irem hx hb dL_isDone_72 (n_nz nx_190 (by omega) (by omega)) ?_
      refine lv_topi (fun x_191 ex_191 => ?_)
      have nx_191 : x_191 = nI (w9 % (n + 1)) := ex_191.trans (rem_nI nr_3 nx_190 (by omega) (by omega) (by omega))
      refine lv_goto (tgt := 102) hx hb dL_isDone_73 (by decide) ?_
      exact JN_9 _ ⟨_, Nat.le_of_lt_succ (Nat.mod_lt _ (by omega)), nx_191⟩ ls (lv_sub hl [0, 1, 2, 3, 4, 5, 6, 7, 8, 9, 10, 11] rfl)
  · have hn0 : n = 0 := n_z hB.2.2.2.2.2.2.1 (by omega) c_181
    refine lv_iconst (v := 0) hx hb dL_isDone_52 (by decide) ?_
    refine lv_goto (tgt := 102) hx hb dL_isDone_53 (by decide) ?_
    exact JN_9 _ ⟨0, by omega, rfl⟩ ls (lv_sub hl [0, 1, 2, 3, 4, 5, 6, 7, 8, 9, 10, 11] rfl)
