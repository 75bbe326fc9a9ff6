set_option maxHeartbeats 4000000 in
set_option maxRecDepth 100000 in
theorem m_L_isMoney (l : Launch) (hnt : l.stackTraces = false) {G : wy_G} {L0 La : List Nat} {f0 fa : Nat → va_E} {sz : Nat} {ox lo : Nat} {ra ar : Nat → Nat} {t n : Nat} {km mn : Int32} {wk : Nat} {po : Nat → Int32} {rr : Nat → wr_V} {ad av ao af ag : Nat} {d v o fr g : Nat → Int32} (hq : wx_S G L0 f0 ox lo ra ar n km mn wk po rr) (hR : wR G La fa ad av ao af ag d v o fr g) (hJ : wJ t n km mn wk po rr) (hB : wB n km mn wk rr d v o fr g) (ht : t ≤ 80) : Met l yL_isMoney wsL_isMoney ({ frames := 10, cells := 32, slots := 192, locals := 225 } : Room) (va_Pc [.ref ox, .ref ad, .ref af, .ref ag] (wq_P G L0 f0 La fa sz)) (wq_Q G L0 La sz (fun r1 L1 f1 fa1 => r1 = .int (bI true) ∧ fa1 = fa ∧ ∃ ra ar, wx_S G L1 f1 ox lo ra ar n km mn wk po rr)) 32 192 (wy_A (L0 ++ La) sz) := by
  refine Met.ofW (cc := cL_isMoney) (maxL := 12) (ret := (some .boolean)) (by decide) rfl ?_
  intro p e s m args below meth c s₁ B hml hv
  obtain ⟨rfl, hP⟩ := hv
  obtain ⟨hw, hK, hA⟩ := wq_start hP
  obtain ⟨hv, -, -, hE, hZ, hN⟩ := hP
  have hsz := hv.1
  subst hsz
  have hx := B.exec
  have hb := B.bytes
  have hr := B.returns
  have hts := atoms_spec (ws := wsL_isMoney) B.pre
  have hown : s.vm.findClass RL = some m.cls := findClass_of_methodNamed B.named
  have hlocks := B.notSynchronized
  have hn20 : n ≤ 20 := hJ.2.1
  have hwk20 : wk ≤ 20 := hJ.2.2.1
  have hne := hR.2.2.2.2.2
  have hl := lv_entry ([.ref ox, .ref ad, .ref af, .ref ag]) (n := 12) (Nat.le_of_ble_eq_true rfl)
  rw [lg_entry_eq]
  generalize (lg_sl ([.ref ox, .ref ad, .ref af, .ref ag]) ++ List.replicate (12 - (lg_sl ([.ref ox, .ref ad, .ref af, .ref ag])).length) Slot.unset).toArray = ls at hl ⊢
  have hl : lv_has ls 12 [(0, .ref ox), (1, .ref ad), (2, .ref af), (3, .ref ag)] := hl
  refine lv_iconst (v := 0) hx hb dL_isMoney_0 (by decide) ?_
  refine lv_istore (lv' := [(4, .int 0), (0, .ref ox), (1, .ref ad), (2, .ref af), (3, .ref ag)]) hx hb dL_isMoney_1 hl (by decide) rfl (fun ls hl => ?_)
  refine lv_aload_n hx hb dL_isMoney_3 rfl (lv_at hl 1 rfl) ?_
  refine vp_callSi (W.runV (As := []) (rest := []) ⟨hx, hb, hml, hown, hts⟩ (m_X1_house l hq) (cwV 0 hts gL_isMoney_X1_house rfl rfl rfl (by decide +kernel) ⟨Nat.le_of_ble_eq_true rfl, Nat.le_of_ble_eq_true rfl⟩) (wy_pVR hK hw.1.1 hq.1 rfl) rfl rfl hl.1 rfl (lv_room (Nat.le_of_ble_eq_true rfl)) dL_isMoney_4 ⟨(show 0 + 0 ≤ 32 by omega), (show 0 + 0 ≤ 192 by omega)⟩) (fun r_1 er_1 => ?_)
  subst er_1
  refine lv_istore (lv' := [(5, .int (houS rr n wk)), (4, .int 0), (0, .ref ox), (1, .ref ad), (2, .ref af), (3, .ref ag)]) hx hb dL_isMoney_7 hl (by decide) rfl (fun ls hl => ?_)
  refine lv_aload_n hx hb dL_isMoney_9 rfl (lv_at hl 2 rfl) ?_
  refine vp_callSi (W.runV (As := []) (rest := []) ⟨hx, hb, hml, hown, hts⟩ (m_X1_week l hq) (cwV 0 hts gL_isMoney_X1_week rfl rfl rfl (by decide +kernel) ⟨Nat.le_of_ble_eq_true rfl, Nat.le_of_ble_eq_true rfl⟩) (wy_pVR hK hw.1.1 hq.1 rfl) rfl rfl hl.1 rfl (lv_room (Nat.le_of_ble_eq_true rfl)) dL_isMoney_10 ⟨(show 0 + 0 ≤ 32 by omega), (show 0 + 0 ≤ 192 by omega)⟩) (fun r_2 er_2 => ?_)
  subst er_2
  refine lv_aload_n hx hb dL_isMoney_13 rfl (lv_at hl 5 rfl) ?_
  refine lv_iconst (v := 1) hx hb dL_isMoney_14 (by decide) ?_
  refine wy_iald hx hb hK hw.2.1.1 hR.2.2.2.2.1 (1) (rfl : (1 : Int32) = nI 1) (by omega) (by omega) dL_isMoney_15 ?_
  refine lv_icmp_ne (tgt := 33) hx hb dL_isMoney_16 (by decide) (fun z => absurd (hB.2.2.2.2.2.2.2.1.symm) z) (fun _ => ?_)
  refine lv_aload_n hx hb dL_isMoney_19 rfl (lv_at hl 2 rfl) ?_
  refine vp_callSi (W.runV (As := []) (rest := []) ⟨hx, hb, hml, hown, hts⟩ (m_X1_openDisputes l hq) (cwV 0 hts gL_isMoney_X1_openDisputes rfl rfl rfl (by decide +kernel) ⟨Nat.le_of_ble_eq_true rfl, Nat.le_of_ble_eq_true rfl⟩) (wy_pVR hK hw.1.1 hq.1 rfl) rfl rfl hl.1 rfl (lv_room (Nat.le_of_ble_eq_true rfl)) dL_isMoney_20 ⟨(show 0 + 0 ≤ 32 by omega), (show 0 + 0 ≤ 192 by omega)⟩) (fun r_3 er_3 => ?_)
  subst er_3
  refine lv_aload_n hx hb dL_isMoney_23 rfl (lv_at hl 5 rfl) ?_
  refine lv_iconst (v := 4) hx hb dL_isMoney_24 (by decide) ?_
  refine wy_iald hx hb hK hw.2.1.1 hR.2.2.2.2.1 (4) (rfl : (4 : Int32) = nI 4) (by omega) (by omega) dL_isMoney_25 ?_
  refine lv_icmp_ne (tgt := 33) hx hb dL_isMoney_26 (by decide) (fun z => absurd (hB.2.2.2.2.2.2.2.2.2.2.symm) z) (fun _ => ?_)
  refine lv_iconst (v := 1) hx hb dL_isMoney_29 (by decide) ?_
  refine lv_goto (tgt := 34) hx hb dL_isMoney_30 (by decide) ?_
  refine lv_istore (lv' := [(6, .int 1), (5, .int (houS rr n wk)), (4, .int 0), (0, .ref ox), (1, .ref ad), (2, .ref af), (3, .ref ag)]) hx hb dL_isMoney_34 hl (by decide) rfl (fun ls hl => ?_)
  refine lv_iconst (v := 0) hx hb dL_isMoney_36 (by decide) ?_
  refine lv_istore (lv' := [(7, .int 0), (6, .int 1), (5, .int (houS rr n wk)), (4, .int 0), (0, .ref ox), (1, .ref ad), (2, .ref af), (3, .ref ag)]) hx hb dL_isMoney_37 hl (by decide) rfl (fun ls hl => ?_)
  have KK_k : ∀ (dk k : Nat), k + dk = 10 → ∀ (xi_k : Int32), xi_k = nI (k) → ∀ (a_s : Int32), a_s = bx_sum (fun r => spdS rr n r) k → ∀ (H : Heap) (locs : List Loc) (L : List Nat) (f : Nat → va_E) (ra ar : Nat → Nat) (cc_k ss_k : Nat), wq_H G (wy_A (L0 ++ La) s.heap.size) s.heap H locs L f La fa → wx_S G L f ox lo ra ar n km mn wk po rr → cc_k ≤ 0 + 2 * k → ss_k ≤ 0 + 12 * k → ∀ ls : Array Slot, lv_has ls 12 [(7, .int xi_k), (6, .int 1), (5, .int (houS rr n wk)), (4, .int a_s), (0, .ref ox), (1, .ref ad), (2, .ref af), (3, .ref ag)] → W p l e (headSpec wsL_isMoney ({ frames := 10, cells := 32, slots := 192, locals := 225 } : Room)).room s m ([.ref ox, .ref ad, .ref af, .ref ag] : List Value).toArray below meth c H locs (cc_k) (ss_k) (MQ below (wq_Q G L0 La s.heap.size (fun r1 L1 f1 fa1 => r1 = .int (bI true) ∧ fa1 = fa ∧ ∃ ra ar, wx_S G L1 f1 ox lo ra ar n km mn wk po rr)) ([.ref ox, .ref ad, .ref af, .ref ag] : List Value).toArray s 32 192 (wy_A (L0 ++ La) s.heap.size)) (F0 m 39 ls []) := by
    intro dk
    induction dk with
    | zero =>
      intro k hd_k xi_k ei_k a_s ha_s H locs L f ra ar cc_k ss_k hw hq hcc_k hss_k ls hl
      refine lv_iload hx hb dL_isMoney_39 (lv_at hl 0 rfl) ?_
      refine lv_bipush (v := 10) hx hb dL_isMoney_41 (by decide) ?_
      refine lv_icmp_ge (tgt := 206) hx hb dL_isMoney_43 (by decide) (fun c_4 => ?_) (fun c_4 => ?_)
      · have nc_4 : 10 ≤ k := (wy_ge ei_k (rfl : (10 : Int32) = nI 10) (by omega) (by decide)).mp c_4
        obtain rfl : 10 = k := by omega
        refine lv_iconst (v := 0) hx hb dL_isMoney_206 (by decide) ?_
        refine lv_istore (lv' := [(7, .int 0), (6, .int 1), (5, .int (houS rr n wk)), (4, .int a_s), (0, .ref ox), (1, .ref ad), (2, .ref af), (3, .ref ag)]) hx hb dL_isMoney_207 hl (by decide) rfl (fun ls hl => ?_)
        have KK_q : ∀ (dq q : Nat), q + dq = 5 → ∀ (xi_q : Int32), xi_q = nI (q) → ∀ (s_s : Int32), s_s = houS rr n wk + bx_sum (fun x => payB rr n (nI x) (wk + 1)) q → ∀ (H : Heap) (locs : List Loc) (L : List Nat) (f : Nat → va_E) (ra ar : Nat → Nat) (cc_q ss_q : Nat), wq_H G (wy_A (L0 ++ La) s.heap.size) s.heap H locs L f La fa → wx_S G L f ox lo ra ar n km mn wk po rr → cc_q ≤ cc_k + 2 * q → ss_q ≤ ss_k + 12 * q → ∀ ls : Array Slot, lv_has ls 12 [(7, .int xi_q), (6, .int 1), (5, .int s_s), (4, .int a_s), (0, .ref ox), (1, .ref ad), (2, .ref af), (3, .ref ag)] → W p l e (headSpec wsL_isMoney ({ frames := 10, cells := 32, slots := 192, locals := 225 } : Room)).room s m ([.ref ox, .ref ad, .ref af, .ref ag] : List Value).toArray below meth c H locs (cc_q) (ss_q) (MQ below (wq_Q G L0 La s.heap.size (fun r1 L1 f1 fa1 => r1 = .int (bI true) ∧ fa1 = fa ∧ ∃ ra ar, wx_S G L1 f1 ox lo ra ar n km mn wk po rr)) ([.ref ox, .ref ad, .ref af, .ref ag] : List Value).toArray s 32 192 (wy_A (L0 ++ La) s.heap.size)) (F0 m 209 ls []) := by
          intro dq
          induction dq with
          | zero =>
            intro q hd_q xi_q ei_q s_s hs_s H locs L f ra ar cc_q ss_q hw hq hcc_q hss_q ls hl
            refine lv_iload hx hb dL_isMoney_209 (lv_at hl 0 rfl) ?_
            refine lv_iconst (v := 5) hx hb dL_isMoney_211 (by decide) ?_
            refine lv_icmp_ge (tgt := 443) hx hb dL_isMoney_212 (by decide) (fun c_5 => ?_) (fun c_5 => ?_)
            · have nc_5 : 5 ≤ q := (wy_ge ei_q (rfl : (5 : Int32) = nI 5) (by omega) (by decide)).mp c_5
              obtain rfl : 5 = q := by omega
              refine lv_iload hx hb dL_isMoney_443 (lv_at hl 1 rfl) ?_
              refine lv_if_eq (tgt := 486) hx hb dL_isMoney_445 (by decide) (fun z => absurd z (by decide)) (fun _ => ?_)
              refine lv_iload hx hb dL_isMoney_448 (lv_at hl 2 rfl) ?_
              refine lv_iload hx hb dL_isMoney_450 (lv_at hl 3 rfl) ?_
              refine lv_icmp_ne (tgt := 486) hx hb dL_isMoney_452 (by decide) (fun z => absurd (hs_s.trans (P_sum.trans ha_s.symm)) z) (fun _ => ?_)
              refine lv_aload_n hx hb dL_isMoney_455 rfl (lv_at hl 4 rfl) ?_
              refine lv_bipush (v := 7) hx hb dL_isMoney_456 (by decide) ?_
              refine lv_iconst (v := 5) hx hb dL_isMoney_458 (by decide) ?_
              refine lv_iconst (v := 0) hx hb dL_isMoney_459 (by decide) ?_
              have hC_6 : okC 5 5 = 1 := by decide +kernel
              refine wq_call0 (vx_runSX (As := [.ref ox, .int 7, .int 5, .int 0]) (rest := []) ⟨hx, hb, hml, hown, hts⟩ (m_L_asks_balance l hnt (fa := fa) hq (5) (0) (by rw [hC_6]; decide)) (vx_cwSW 4 hts gL_isMoney_L_asks rfl rfl rfl (by decide +kernel) ⟨Nat.le_of_ble_eq_true rfl, Nat.le_of_ble_eq_true rfl⟩) (wq_pre0 hK hE hZ hN hw hA) rfl rfl hl.1 rfl (lv_room (Nat.le_of_ble_eq_true rfl)) dL_isMoney_460 ⟨(show cc_q + 1 ≤ 32 by omega), (show ss_q + 6 ≤ 192 by omega)⟩) hw hA (fun r_6 L_6 f_6 fx_6 H locs hp hw => ?_)
              obtain ⟨er, eL, ef⟩ := hp
              replace hq := wx_tr hq eL ef
              have er : r_6 = .int (-1000000030) := er.trans (congrArg Value.int (by rw [hC_6]; decide))
              subst er
              refine lv_ldc (v := (-1000000030)) hx hb hown (hts (.constant RL 92 ((-1000000030))) (by decide +kernel)) dL_isMoney_463 ?_
              refine lv_icmp_ne (tgt := 486) hx hb dL_isMoney_465 (by decide) (fun z => absurd z (by decide)) (fun _ => ?_)
              refine lv_aload_n hx hb dL_isMoney_468 rfl (lv_at hl 4 rfl) ?_
              refine lv_bipush (v := 9) hx hb dL_isMoney_469 (by decide) ?_
              refine lv_bipush (v := 10) hx hb dL_isMoney_471 (by decide) ?_
              refine lv_iconst (v := 0) hx hb dL_isMoney_473 (by decide) ?_
              have hC_7 : okC 10 10 = 1 := by decide +kernel
              refine wq_call0 (vx_runSX (As := [.ref ox, .int 9, .int 10, .int 0]) (rest := []) ⟨hx, hb, hml, hown, hts⟩ (m_L_asks_spent l hnt (fa := fa) hq (10) (0) (by rw [hC_7]; decide)) (vx_cwSW 4 hts gL_isMoney_L_asks rfl rfl rfl (by decide +kernel) ⟨Nat.le_of_ble_eq_true rfl, Nat.le_of_ble_eq_true rfl⟩) (wq_pre0 hK hE hZ hN hw hA) rfl rfl hl.1 rfl (lv_room (Nat.le_of_ble_eq_true rfl)) dL_isMoney_474 ⟨(show cc_q + 1 + 1 ≤ 32 by omega), (show ss_q + 6 + 6 ≤ 192 by omega)⟩) hw hA (fun r_7 L_7 f_7 fx_7 H locs hp hw => ?_)
              obtain ⟨er, eL, ef⟩ := hp
              replace hq := wx_tr hq eL ef
              have er : r_7 = .int (-1000000030) := er.trans (congrArg Value.int (by rw [hC_7]; decide))
              subst er
              refine lv_ldc (v := (-1000000030)) hx hb hown (hts (.constant RL 92 ((-1000000030))) (by decide +kernel)) dL_isMoney_477 ?_
              refine lv_icmp_ne (tgt := 486) hx hb dL_isMoney_479 (by decide) (fun z => absurd z (by decide)) (fun _ => ?_)
              refine lv_iconst (v := 1) hx hb dL_isMoney_482 (by decide) ?_
              refine lv_goto (tgt := 487) hx hb dL_isMoney_483 (by decide) ?_
              exact wq_zret (b := true) rfl hx hb hr hlocks dL_isMoney_487 hw (show cc_q + 1 + 1 ≤ 32 by omega) (show ss_q + 6 + 6 ≤ 192 by omega) ⟨rfl, rfl, ra, ar, hq⟩
            · have nc_5 : ¬ (5 ≤ q) := fun z => c_5 ((wy_ge ei_q (rfl : (5 : Int32) = nI 5) (by omega) (by decide)).mpr z)
              exact absurd nc_5 (by omega)
          | succ dq ih_dq =>
            intro q hd_q xi_q ei_q s_s hs_s H locs L f ra ar cc_q ss_q hw hq hcc_q hss_q ls hl
            refine lv_iload hx hb dL_isMoney_209 (lv_at hl 0 rfl) ?_
            refine lv_iconst (v := 5) hx hb dL_isMoney_211 (by decide) ?_
            refine lv_icmp_ge (tgt := 443) hx hb dL_isMoney_212 (by decide) (fun c_8 => ?_) (fun c_8 => ?_)
            · have nc_8 : 5 ≤ q := (wy_ge ei_q (rfl : (5 : Int32) = nI 5) (by omega) (by decide)).mp c_8
              exact absurd nc_8 (by omega)
            · have nc_8 : ¬ (5 ≤ q) := fun z => c_8 ((wy_ge ei_q (rfl : (5 : Int32) = nI 5) (by omega) (by decide)).mpr z)
              refine lv_iload hx hb dL_isMoney_215 (lv_at hl 1 rfl) ?_
              refine lv_if_eq (tgt := 443) hx hb dL_isMoney_217 (by decide) (fun z => absurd z (by decide)) (fun _ => ?_)
              refine lv_iconst (v := 0) hx hb dL_isMoney_220 (by decide) ?_
              refine lv_istore (lv' := [(8, .int 0), (7, .int xi_q), (6, .int 1), (5, .int s_s), (4, .int a_s), (0, .ref ox), (1, .ref ad), (2, .ref af), (3, .ref ag)]) hx hb dL_isMoney_221 hl (by decide) rfl (fun ls hl => ?_)
              refine lv_iconst (v := 0) hx hb dL_isMoney_223 (by decide) ?_
              refine lv_istore (lv' := [(9, .int 0), (8, .int 0), (7, .int xi_q), (6, .int 1), (5, .int s_s), (4, .int a_s), (0, .ref ox), (1, .ref ad), (2, .ref af), (3, .ref ag)]) hx hb dL_isMoney_224 hl (by decide) rfl (fun ls hl => ?_)
              have KK_j : ∀ (dj j : Nat), j + dj = (wk + 1) → ∀ (xi_j : Int32), xi_j = nI (j) → ∀ (u_s : Int32), u_s = houS rr n wk + bx_sum (fun x => payB rr n (nI x) (wk + 1)) q + payB rr n (nI q) j → ∀ (w_s : Int32), w_s = payB rr n (nI q) (min j wk) → ∀ ls : Array Slot, lv_has ls 12 [(9, .int xi_j), (8, .int w_s), (7, .int xi_q), (6, .int 1), (5, .int u_s), (4, .int a_s), (0, .ref ox), (1, .ref ad), (2, .ref af), (3, .ref ag)] → W p l e (headSpec wsL_isMoney ({ frames := 10, cells := 32, slots := 192, locals := 225 } : Room)).room s m ([.ref ox, .ref ad, .ref af, .ref ag] : List Value).toArray below meth c H locs (cc_q) (ss_q) (MQ below (wq_Q G L0 La s.heap.size (fun r1 L1 f1 fa1 => r1 = .int (bI true) ∧ fa1 = fa ∧ ∃ ra ar, wx_S G L1 f1 ox lo ra ar n km mn wk po rr)) ([.ref ox, .ref ad, .ref af, .ref ag] : List Value).toArray s 32 192 (wy_A (L0 ++ La) s.heap.size)) (F0 m 226 ls []) := by
                intro dj
                induction dj with
                | zero =>
                  intro j hd_j xi_j ei_j u_s hu_s w_s hw_s ls hl
                  refine lv_iload hx hb dL_isMoney_226 (lv_at hl 0 rfl) ?_
                  refine lv_aload_n hx hb dL_isMoney_228 rfl (lv_at hl 9 rfl) ?_
                  refine lv_iconst (v := 1) hx hb dL_isMoney_229 (by decide) ?_
                  refine wy_iald hx hb hK hw.2.1.1 hR.2.2.2.2.1 (1) (rfl : (1 : Int32) = nI 1) (by omega) (by omega) dL_isMoney_230 ?_
                  refine lv_icmp_gt (tgt := 380) hx hb dL_isMoney_231 (by decide) (fun c_9 => ?_) (fun c_9 => ?_)
                  · have nc_9 : wk < j := (wy_gt ei_j hB.2.2.2.2.2.2.2.1 (by omega) (by omega)).mp c_9
                    obtain rfl : (wk + 1) = j := by omega
                    refine lv_iload hx hb dL_isMoney_380 (lv_at hl 3 rfl) ?_
                    refine lv_if_eq (tgt := 434) hx hb dL_isMoney_382 (by decide) (fun z => absurd z (by decide)) (fun _ => ?_)
                    refine lv_aload_n hx hb dL_isMoney_385 rfl (lv_at hl 6 rfl) ?_
                    refine lv_iload hx hb dL_isMoney_386 (lv_at hl 2 rfl) ?_
                    refine vp_callSi (W.runV (As := [.int xi_q]) (rest := []) ⟨hx, hb, hml, hown, hts⟩ (r_X1_balance l hq (xi_q) (q) (by omega) ei_q) (cwV 1 hts gL_isMoney_X1_balance rfl rfl rfl (by decide +kernel) ⟨Nat.le_of_ble_eq_true rfl, Nat.le_of_ble_eq_true rfl⟩) (wy_pVR hK hw.1.1 hq.1 rfl) rfl rfl hl.1 rfl (lv_room (Nat.le_of_ble_eq_true rfl)) dL_isMoney_388 ⟨(show cc_q + 0 ≤ 32 by omega), (show ss_q + 0 ≤ 192 by omega)⟩) (fun r_10 er_10 => ?_)
                    subst er_10
                    refine lv_iload hx hb dL_isMoney_391 (lv_at hl 1 rfl) ?_
                    refine lv_aload_n hx hb dL_isMoney_393 rfl (lv_at hl 6 rfl) ?_
                    refine lv_iload hx hb dL_isMoney_394 (lv_at hl 2 rfl) ?_
                    refine vp_callSi (W.runV (As := [.int xi_q]) (rest := [.int w_s, .int (dueS rr n po wk q)]) ⟨hx, hb, hml, hown, hts⟩ (r_X1_paid l hq (xi_q) (q) (by omega) ei_q) (cwV 1 hts gL_isMoney_X1_paid rfl rfl rfl (by decide +kernel) ⟨Nat.le_of_ble_eq_true rfl, Nat.le_of_ble_eq_true rfl⟩) (wy_pVR hK hw.1.1 hq.1 rfl) rfl rfl hl.1 rfl (lv_room (Nat.le_of_ble_eq_true rfl)) dL_isMoney_396 ⟨(show cc_q + 0 ≤ 32 by omega), (show ss_q + 0 ≤ 192 by omega)⟩) (fun r_11 er_11 => ?_)
                    subst er_11
                    refine lv_isub hx hb dL_isMoney_399 ?_
                    refine lv_topi (fun x_12 ex_12 => ?_)
                    refine lv_icmp_ne (tgt := 434) hx hb dL_isMoney_400 (by decide) (fun z => absurd ((by rw [ex_12, hw_s]; exact P_due : dueS rr n po wk q = x_12)) z) (fun _ => ?_)
                    refine lv_aload_n hx hb dL_isMoney_403 rfl (lv_at hl 6 rfl) ?_
                    refine lv_iload hx hb dL_isMoney_404 (lv_at hl 2 rfl) ?_
                    refine vp_callSi (W.runV (As := [.int xi_q]) (rest := []) ⟨hx, hb, hml, hown, hts⟩ (r_X1_paid l hq (xi_q) (q) (by omega) ei_q) (cwV 1 hts gL_isMoney_X1_paid rfl rfl rfl (by decide +kernel) ⟨Nat.le_of_ble_eq_true rfl, Nat.le_of_ble_eq_true rfl⟩) (wy_pVR hK hw.1.1 hq.1 rfl) rfl rfl hl.1 rfl (lv_room (Nat.le_of_ble_eq_true rfl)) dL_isMoney_406 ⟨(show cc_q + 0 ≤ 32 by omega), (show ss_q + 0 ≤ 192 by omega)⟩) (fun r_13 er_13 => ?_)
                    subst er_13
                    refine lv_if_lt (tgt := 434) hx hb dL_isMoney_409 (by decide) (fun z => absurd z (P_pn hJ (by omega))) (fun _ => ?_)
                    refine lv_aload_n hx hb dL_isMoney_412 rfl (lv_at hl 6 rfl) ?_
                    refine lv_bipush (v := 6) hx hb dL_isMoney_413 (by decide) ?_
                    refine lv_iload hx hb dL_isMoney_415 (lv_at hl 2 rfl) ?_
                    refine lv_aload_n hx hb dL_isMoney_417 rfl (lv_at hl 9 rfl) ?_
                    refine lv_iconst (v := 1) hx hb dL_isMoney_418 (by decide) ?_
                    refine wy_iald hx hb hK hw.2.1.1 hR.2.2.2.2.1 (1) (rfl : (1 : Int32) = nI 1) (by omega) (by omega) dL_isMoney_419 ?_
                    refine lv_iconst (v := 1) hx hb dL_isMoney_420 (by decide) ?_
                    refine lv_iadd hx hb dL_isMoney_421 ?_
                    refine lv_topi (fun x_14 ex_14 => ?_)
                    have nx_14 : x_14 = nI (wk + 1) := ex_14.trans ((congr (congrArg (fun u v : Int32 => u + v) hB.2.2.2.2.2.2.2.1) (rfl : (1 : Int32) = nI 1)).trans (nI_add _ _))
                    have hC_15 : ewC wk xi_q x_14 = 2 := P_ew (k := q) (by omega) hwk20 ei_q nx_14
                    refine wq_call0 (vx_runSX (As := [.ref ox, .int 6, .int xi_q, .int x_14]) (rest := []) ⟨hx, hb, hml, hown, hts⟩ (m_L_asks_pay l hnt (fa := fa) hq (xi_q) (x_14) (by rw [hC_15]; decide)) (vx_cwSW 4 hts gL_isMoney_L_asks rfl rfl rfl (by decide +kernel) ⟨Nat.le_of_ble_eq_true rfl, Nat.le_of_ble_eq_true rfl⟩) (wq_pre0 hK hE hZ hN hw hA) rfl rfl hl.1 rfl (lv_room (Nat.le_of_ble_eq_true rfl)) dL_isMoney_422 ⟨(show cc_q + 2 ≤ 32 by omega), (show ss_q + 12 ≤ 192 by omega)⟩) hw hA (fun r_15 L_15 f_15 fx_15 H locs hp hw => ?_)
                    obtain ⟨er, eL, ef⟩ := hp
                    replace hq := wx_tr hq eL ef
                    have er : r_15 = .int (-1000000020) := er.trans (congrArg Value.int (by rw [hC_15]; decide))
                    subst er
                    refine lv_ldc (v := (-1000000020)) hx hb hown (hts (.constant RL 93 ((-1000000020))) (by decide +kernel)) dL_isMoney_425 ?_
                    refine lv_icmp_ne (tgt := 434) hx hb dL_isMoney_427 (by decide) (fun z => absurd z (by decide)) (fun _ => ?_)
                    refine lv_iconst (v := 1) hx hb dL_isMoney_430 (by decide) ?_
                    refine lv_goto (tgt := 435) hx hb dL_isMoney_431 (by decide) ?_
                    refine lv_istore (lv' := [(6, .int 1), (9, .int xi_j), (8, .int w_s), (7, .int xi_q), (5, .int u_s), (4, .int a_s), (0, .ref ox), (1, .ref ad), (2, .ref af), (3, .ref ag)]) hx hb dL_isMoney_435 hl (by decide) rfl (fun ls hl => ?_)
                    obtain ⟨x_16, ex_16⟩ : ∃ y : Int32, y = xi_q + 1 := ⟨_, rfl⟩
                    have nx_16 : x_16 = nI (q + 1) := by rw [ex_16, ei_q, nI_1]
                    refine lv_iinc (v := x_16) (lv' := [(7, .int x_16), (6, .int 1), (9, .int xi_j), (8, .int w_s), (5, .int u_s), (4, .int a_s), (0, .ref ox), (1, .ref ad), (2, .ref af), (3, .ref ag)]) hx hb dL_isMoney_437 hl (k := 3) rfl (by rw [ex_16]; rfl) (by decide) rfl (fun ls hl => ?_)
                    refine lv_goto (tgt := 209) hx hb dL_isMoney_440 (by decide) ?_
                    exact ih_dq (q + 1) (by omega) _ nx_16 _ (by rw [hu_s, Int32.add_assoc]; rfl) _ _ _ _ _ _ _ _ hw hq (by omega) (by omega) ls (lv_sub hl [0, 1, 4, 5, 6, 7, 8, 9] rfl)
                  · have nc_9 : ¬ (wk < j) := fun z => c_9 ((wy_gt ei_j hB.2.2.2.2.2.2.2.1 (by omega) (by omega)).mpr z)
                    exact absurd nc_9 (by omega)
                | succ dj ih_dj =>
                  intro j hd_j xi_j ei_j u_s hu_s w_s hw_s ls hl
                  refine lv_iload hx hb dL_isMoney_226 (lv_at hl 0 rfl) ?_
                  refine lv_aload_n hx hb dL_isMoney_228 rfl (lv_at hl 9 rfl) ?_
                  refine lv_iconst (v := 1) hx hb dL_isMoney_229 (by decide) ?_
                  refine wy_iald hx hb hK hw.2.1.1 hR.2.2.2.2.1 (1) (rfl : (1 : Int32) = nI 1) (by omega) (by omega) dL_isMoney_230 ?_
                  refine lv_icmp_gt (tgt := 380) hx hb dL_isMoney_231 (by decide) (fun c_17 => ?_) (fun c_17 => ?_)
                  · have nc_17 : wk < j := (wy_gt ei_j hB.2.2.2.2.2.2.2.1 (by omega) (by omega)).mp c_17
                    exact absurd nc_17 (by omega)
                  · have nc_17 : ¬ (wk < j) := fun z => c_17 ((wy_gt ei_j hB.2.2.2.2.2.2.2.1 (by omega) (by omega)).mpr z)
                    refine lv_aload_n hx hb dL_isMoney_234 rfl (lv_at hl 6 rfl) ?_
                    refine lv_iload hx hb dL_isMoney_235 (lv_at hl 2 rfl) ?_
                    refine lv_iload hx hb dL_isMoney_237 (lv_at hl 0 rfl) ?_
                    refine vp_callSi (W.runV (As := [.int xi_q, .int xi_j]) (rest := []) ⟨hx, hb, hml, hown, hts⟩ (r_X1_earnings l hq (xi_q) (xi_j) (q) (j) (by omega) (by omega) ei_q ei_j) (cwV 2 hts gL_isMoney_X1_earnings rfl rfl rfl (by decide +kernel) ⟨Nat.le_of_ble_eq_true rfl, Nat.le_of_ble_eq_true rfl⟩) (wy_pVR hK hw.1.1 hq.1 rfl) rfl rfl hl.1 rfl (lv_room (Nat.le_of_ble_eq_true rfl)) dL_isMoney_239 ⟨(show cc_q + 0 ≤ 32 by omega), (show ss_q + 0 ≤ 192 by omega)⟩) (fun r_18 er_18 => ?_)
                    subst er_18
                    refine lv_istore (lv' := [(10, .int (earnS rr n xi_q xi_j)), (9, .int xi_j), (8, .int w_s), (7, .int xi_q), (6, .int 1), (5, .int u_s), (4, .int a_s), (0, .ref ox), (1, .ref ad), (2, .ref af), (3, .ref ag)]) hx hb dL_isMoney_242 hl (by decide) rfl (fun ls hl => ?_)
                    refine lv_aload_n hx hb dL_isMoney_244 rfl (lv_at hl 7 rfl) ?_
                    refine lv_iload hx hb dL_isMoney_245 (lv_at hl 3 rfl) ?_
                    refine lv_iload hx hb dL_isMoney_247 (lv_at hl 1 rfl) ?_
                    refine vp_callSi (W.runV (As := [.int xi_q, .int xi_j]) (rest := []) ⟨hx, hb, hml, hown, hts⟩ (r_X1_bonus l hq (xi_q) (xi_j) (q) (j) (by omega) (by omega) ei_q ei_j) (cwV 2 hts gL_isMoney_X1_bonus rfl rfl rfl (by decide +kernel) ⟨Nat.le_of_ble_eq_true rfl, Nat.le_of_ble_eq_true rfl⟩) (wy_pVR hK hw.1.1 hq.1 rfl) rfl rfl hl.1 rfl (lv_room (Nat.le_of_ble_eq_true rfl)) dL_isMoney_249 ⟨(show cc_q + 0 ≤ 32 by omega), (show ss_q + 0 ≤ 192 by omega)⟩) (fun r_19 er_19 => ?_)
                    subst er_19
                    refine lv_istore (lv' := [(11, .int (bonS rr n xi_q xi_j)), (10, .int (earnS rr n xi_q xi_j)), (9, .int xi_j), (8, .int w_s), (7, .int xi_q), (6, .int 1), (5, .int u_s), (4, .int a_s), (0, .ref ox), (1, .ref ad), (2, .ref af), (3, .ref ag)]) hx hb dL_isMoney_252 hl (by decide) rfl (fun ls hl => ?_)
                    refine lv_iload hx hb dL_isMoney_254 (lv_at hl 5 rfl) ?_
                    refine lv_if_eq (tgt := 333) hx hb dL_isMoney_256 (by decide) (fun z => absurd z (by decide)) (fun _ => ?_)
                    refine lv_iload hx hb dL_isMoney_259 (lv_at hl 1 rfl) ?_
                    refine lv_if_lt (tgt := 333) hx hb dL_isMoney_261 (by decide) (fun z => absurd z (P_en hJ ht _ _)) (fun _ => ?_)
                    refine lv_aload_n hx hb dL_isMoney_264 rfl (lv_at hl 8 rfl) ?_
                    refine lv_iload hx hb dL_isMoney_265 (lv_at hl 4 rfl) ?_
                    refine lv_iload hx hb dL_isMoney_267 (lv_at hl 2 rfl) ?_
                    refine vp_callSi (W.runV (As := [.int xi_q, .int xi_j]) (rest := []) ⟨hx, hb, hml, hown, hts⟩ (r_X1_topUp l hq (xi_q) (xi_j) (q) (j) (by omega) (by omega) ei_q ei_j) (cwV 2 hts gL_isMoney_X1_topUp rfl rfl rfl (by decide +kernel) ⟨Nat.le_of_ble_eq_true rfl, Nat.le_of_ble_eq_true rfl⟩) (wy_pVR hK hw.1.1 hq.1 rfl) rfl rfl hl.1 rfl (lv_room (Nat.le_of_ble_eq_true rfl)) dL_isMoney_269 ⟨(show cc_q + 0 ≤ 32 by omega), (show ss_q + 0 ≤ 192 by omega)⟩) (fun r_20 er_20 => ?_)
                    subst er_20
                    refine lv_if_lt (tgt := 333) hx hb dL_isMoney_272 (by decide) (fun z => absurd z (P_tn hJ ht _ _)) (fun _ => ?_)
                    refine lv_aload_n hx hb dL_isMoney_275 rfl (lv_at hl 8 rfl) ?_
                    refine lv_iload hx hb dL_isMoney_276 (lv_at hl 4 rfl) ?_
                    refine lv_iload hx hb dL_isMoney_278 (lv_at hl 2 rfl) ?_
                    refine vp_callSi (W.runV (As := [.int xi_q, .int xi_j]) (rest := []) ⟨hx, hb, hml, hown, hts⟩ (r_X1_pay l hq (xi_q) (xi_j) (q) (j) (by omega) (by omega) ei_q ei_j) (cwV 2 hts gL_isMoney_X1_pay rfl rfl rfl (by decide +kernel) ⟨Nat.le_of_ble_eq_true rfl, Nat.le_of_ble_eq_true rfl⟩) (wy_pVR hK hw.1.1 hq.1 rfl) rfl rfl hl.1 rfl (lv_room (Nat.le_of_ble_eq_true rfl)) dL_isMoney_280 ⟨(show cc_q + 0 ≤ 32 by omega), (show ss_q + 0 ≤ 192 by omega)⟩) (fun r_21 er_21 => ?_)
                    subst er_21
                    refine lv_iload hx hb dL_isMoney_283 (lv_at hl 1 rfl) ?_
                    refine lv_aload_n hx hb dL_isMoney_285 rfl (lv_at hl 8 rfl) ?_
                    refine lv_iload hx hb dL_isMoney_286 (lv_at hl 4 rfl) ?_
                    refine lv_iload hx hb dL_isMoney_288 (lv_at hl 2 rfl) ?_
                    refine vp_callSi (W.runV (As := [.int xi_q, .int xi_j]) (rest := [.int (earnS rr n xi_q xi_j), .int (payS rr n xi_q xi_j)]) ⟨hx, hb, hml, hown, hts⟩ (r_X1_topUp l hq (xi_q) (xi_j) (q) (j) (by omega) (by omega) ei_q ei_j) (cwV 2 hts gL_isMoney_X1_topUp rfl rfl rfl (by decide +kernel) ⟨Nat.le_of_ble_eq_true rfl, Nat.le_of_ble_eq_true rfl⟩) (wy_pVR hK hw.1.1 hq.1 rfl) rfl rfl hl.1 rfl (lv_room (Nat.le_of_ble_eq_true rfl)) dL_isMoney_290 ⟨(show cc_q + 0 ≤ 32 by omega), (show ss_q + 0 ≤ 192 by omega)⟩) (fun r_22 er_22 => ?_)
                    subst er_22
                    refine lv_iadd hx hb dL_isMoney_293 ?_
                    refine lv_topi (fun x_23 ex_23 => ?_)
                    refine lv_iload hx hb dL_isMoney_294 (lv_at hl 0 rfl) ?_
                    refine lv_iadd hx hb dL_isMoney_296 ?_
                    refine lv_topi (fun x_24 ex_24 => ?_)
                    refine lv_icmp_ne (tgt := 333) hx hb dL_isMoney_297 (by decide) (fun z => absurd ((by rw [ex_24, ex_23]; rfl : payS rr n xi_q xi_j = x_24)) z) (fun _ => ?_)
                    have JN_26 : ∀ ls : Array Slot, lv_has ls 12 [(11, .int (bonS rr n xi_q xi_j)), (10, .int (earnS rr n xi_q xi_j)), (9, .int xi_j), (8, .int w_s), (7, .int xi_q), (6, .int 1), (5, .int u_s), (4, .int a_s), (0, .ref ox), (1, .ref ad), (2, .ref af), (3, .ref ag)] → W p l e (headSpec wsL_isMoney ({ frames := 10, cells := 32, slots := 192, locals := 225 } : Room)).room s m ([.ref ox, .ref ad, .ref af, .ref ag] : List Value).toArray below meth c H locs (cc_q) (ss_q) (MQ below (wq_Q G L0 La s.heap.size (fun r1 L1 f1 fa1 => r1 = .int (bI true) ∧ fa1 = fa ∧ ∃ ra ar, wx_S G L1 f1 ox lo ra ar n km mn wk po rr)) ([.ref ox, .ref ad, .ref af, .ref ag] : List Value).toArray s 32 192 (wy_A (L0 ++ La) s.heap.size)) (F0 m 329 ls []) := by
                      intro ls hl
                      refine lv_iconst (v := 1) hx hb dL_isMoney_329 (by decide) ?_
                      refine lv_goto (tgt := 334) hx hb dL_isMoney_330 (by decide) ?_
                      refine lv_istore (lv' := [(6, .int 1), (11, .int (bonS rr n xi_q xi_j)), (10, .int (earnS rr n xi_q xi_j)), (9, .int xi_j), (8, .int w_s), (7, .int xi_q), (5, .int u_s), (4, .int a_s), (0, .ref ox), (1, .ref ad), (2, .ref af), (3, .ref ag)]) hx hb dL_isMoney_334 hl (by decide) rfl (fun ls hl => ?_)
                      refine lv_iload hx hb dL_isMoney_336 (lv_at hl 6 rfl) ?_
                      refine lv_aload_n hx hb dL_isMoney_338 rfl (lv_at hl 8 rfl) ?_
                      refine lv_iload hx hb dL_isMoney_339 (lv_at hl 5 rfl) ?_
                      refine lv_iload hx hb dL_isMoney_341 (lv_at hl 3 rfl) ?_
                      refine vp_callSi (W.runV (As := [.int xi_q, .int xi_j]) (rest := [.int u_s]) ⟨hx, hb, hml, hown, hts⟩ (r_X1_pay l hq (xi_q) (xi_j) (q) (j) (by omega) (by omega) ei_q ei_j) (cwV 2 hts gL_isMoney_X1_pay rfl rfl rfl (by decide +kernel) ⟨Nat.le_of_ble_eq_true rfl, Nat.le_of_ble_eq_true rfl⟩) (wy_pVR hK hw.1.1 hq.1 rfl) rfl rfl hl.1 rfl (lv_room (Nat.le_of_ble_eq_true rfl)) dL_isMoney_343 ⟨(show cc_q + 0 ≤ 32 by omega), (show ss_q + 0 ≤ 192 by omega)⟩) (fun r_27 er_27 => ?_)
                      subst er_27
                      refine lv_iadd hx hb dL_isMoney_346 ?_
                      refine lv_topi (fun x_28 ex_28 => ?_)
                      refine lv_istore (lv' := [(5, .int x_28), (6, .int 1), (11, .int (bonS rr n xi_q xi_j)), (10, .int (earnS rr n xi_q xi_j)), (9, .int xi_j), (8, .int w_s), (7, .int xi_q), (4, .int a_s), (0, .ref ox), (1, .ref ad), (2, .ref af), (3, .ref ag)]) hx hb dL_isMoney_347 hl (by decide) rfl (fun ls hl => ?_)
                      refine lv_iload hx hb dL_isMoney_349 (lv_at hl 5 rfl) ?_
                      refine lv_iload hx hb dL_isMoney_351 (lv_at hl 4 rfl) ?_
                      refine lv_aload_n hx hb dL_isMoney_353 rfl (lv_at hl 11 rfl) ?_
                      refine lv_iconst (v := 1) hx hb dL_isMoney_354 (by decide) ?_
                      refine wy_iald hx hb hK hw.2.1.1 hR.2.2.2.2.1 (1) (rfl : (1 : Int32) = nI 1) (by omega) (by omega) dL_isMoney_355 ?_
                      refine lv_icmp_ge (tgt := 370) hx hb dL_isMoney_356 (by decide) (fun c_29 => ?_) (fun c_29 => ?_)
                      · have nc_29 : wk ≤ j := (wy_ge ei_j hB.2.2.2.2.2.2.2.1 (by omega) (by omega)).mp c_29
                        refine lv_iconst (v := 0) hx hb dL_isMoney_370 (by decide) ?_
                        refine lv_iadd hx hb dL_isMoney_371 ?_
                        refine lv_topi (fun x_30 ex_30 => ?_)
                        refine lv_istore (lv' := [(8, .int x_30), (5, .int x_28), (6, .int 1), (11, .int (bonS rr n xi_q xi_j)), (10, .int (earnS rr n xi_q xi_j)), (9, .int xi_j), (7, .int xi_q), (4, .int a_s), (0, .ref ox), (1, .ref ad), (2, .ref af), (3, .ref ag)]) hx hb dL_isMoney_372 hl (by decide) rfl (fun ls hl => ?_)
                        obtain ⟨x_31, ex_31⟩ : ∃ y : Int32, y = xi_j + 1 := ⟨_, rfl⟩
                        have nx_31 : x_31 = nI (j + 1) := by rw [ex_31, ei_j, nI_1]
                        refine lv_iinc (v := x_31) (lv' := [(9, .int x_31), (8, .int x_30), (5, .int x_28), (6, .int 1), (11, .int (bonS rr n xi_q xi_j)), (10, .int (earnS rr n xi_q xi_j)), (7, .int xi_q), (4, .int a_s), (0, .ref ox), (1, .ref ad), (2, .ref af), (3, .ref ag)]) hx hb dL_isMoney_374 hl (k := 5) rfl (by rw [ex_31]; rfl) (by decide) rfl (fun ls hl => ?_)
                        refine lv_goto (tgt := 226) hx hb dL_isMoney_377 (by decide) ?_
                        exact ih_dj (j + 1) (by omega) _ nx_31 _ (by rw [ex_28, hu_s, ei_q, ei_j, Int32.add_assoc]; rfl) _ (by rw [ex_30, hw_s]; exact P_ow0 nc_29) ls (lv_sub hl [0, 1, 6, 3, 2, 7, 8, 9, 10, 11] rfl)
                      · have nc_29 : ¬ (wk ≤ j) := fun z => c_29 ((wy_ge ei_j hB.2.2.2.2.2.2.2.1 (by omega) (by omega)).mpr z)
                        refine lv_aload_n hx hb dL_isMoney_359 rfl (lv_at hl 8 rfl) ?_
                        refine lv_iload hx hb dL_isMoney_360 (lv_at hl 6 rfl) ?_
                        refine lv_iload hx hb dL_isMoney_362 (lv_at hl 4 rfl) ?_
                        refine vp_callSi (W.runV (As := [.int xi_q, .int xi_j]) (rest := [.int w_s]) ⟨hx, hb, hml, hown, hts⟩ (r_X1_pay l hq (xi_q) (xi_j) (q) (j) (by omega) (by omega) ei_q ei_j) (cwV 2 hts gL_isMoney_X1_pay rfl rfl rfl (by decide +kernel) ⟨Nat.le_of_ble_eq_true rfl, Nat.le_of_ble_eq_true rfl⟩) (wy_pVR hK hw.1.1 hq.1 rfl) rfl rfl hl.1 rfl (lv_room (Nat.le_of_ble_eq_true rfl)) dL_isMoney_364 ⟨(show cc_q + 0 ≤ 32 by omega), (show ss_q + 0 ≤ 192 by omega)⟩) (fun r_32 er_32 => ?_)
                        subst er_32
                        refine lv_goto (tgt := 371) hx hb dL_isMoney_367 (by decide) ?_
                        refine lv_iadd hx hb dL_isMoney_371 ?_
                        refine lv_topi (fun x_33 ex_33 => ?_)
                        refine lv_istore (lv' := [(8, .int x_33), (5, .int x_28), (6, .int 1), (11, .int (bonS rr n xi_q xi_j)), (10, .int (earnS rr n xi_q xi_j)), (9, .int xi_j), (7, .int xi_q), (4, .int a_s), (0, .ref ox), (1, .ref ad), (2, .ref af), (3, .ref ag)]) hx hb dL_isMoney_372 hl (by decide) rfl (fun ls hl => ?_)
                        obtain ⟨x_34, ex_34⟩ : ∃ y : Int32, y = xi_j + 1 := ⟨_, rfl⟩
                        have nx_34 : x_34 = nI (j + 1) := by rw [ex_34, ei_j, nI_1]
                        refine lv_iinc (v := x_34) (lv' := [(9, .int x_34), (8, .int x_33), (5, .int x_28), (6, .int 1), (11, .int (bonS rr n xi_q xi_j)), (10, .int (earnS rr n xi_q xi_j)), (7, .int xi_q), (4, .int a_s), (0, .ref ox), (1, .ref ad), (2, .ref af), (3, .ref ag)]) hx hb dL_isMoney_374 hl (k := 5) rfl (by rw [ex_34]; rfl) (by decide) rfl (fun ls hl => ?_)
                        refine lv_goto (tgt := 226) hx hb dL_isMoney_377 (by decide) ?_
                        exact ih_dj (j + 1) (by omega) _ nx_34 _ (by rw [ex_28, hu_s, ei_q, ei_j, Int32.add_assoc]; rfl) _ (by rw [ex_33, hw_s, ei_q, ei_j]; exact P_ow1 (by omega)) ls (lv_sub hl [0, 1, 6, 3, 2, 7, 8, 9, 10, 11] rfl)
                    refine lv_iload hx hb dL_isMoney_300 (lv_at hl 0 rfl) ?_
                    refine lv_if_eq (tgt := 329) hx hb dL_isMoney_302 (by decide) (fun c_35 => ?_) (fun c_35 => ?_)
                    · exact JN_26 ls (lv_sub hl [0, 1, 2, 3, 4, 5, 6, 7, 8, 9, 10, 11] rfl)
                    · refine lv_iload hx hb dL_isMoney_305 (lv_at hl 0 rfl) ?_
                      refine lv_sipush (v := 1000) hx hb dL_isMoney_307 (by decide) ?_
                      refine lv_icmp_eq (tgt := 329) hx hb dL_isMoney_310 (by decide) (fun c_36 => ?_) (fun c_36 => ?_)
                      · exact JN_26 ls (lv_sub hl [0, 1, 2, 3, 4, 5, 6, 7, 8, 9, 10, 11] rfl)
                      · refine lv_iload hx hb dL_isMoney_313 (lv_at hl 0 rfl) ?_
                        refine lv_sipush (v := 3000) hx hb dL_isMoney_315 (by decide) ?_
                        refine lv_icmp_eq (tgt := 329) hx hb dL_isMoney_318 (by decide) (fun c_37 => ?_) (fun c_37 => ?_)
                        · exact JN_26 ls (lv_sub hl [0, 1, 2, 3, 4, 5, 6, 7, 8, 9, 10, 11] rfl)
                        · refine lv_iload hx hb dL_isMoney_321 (lv_at hl 0 rfl) ?_
                          refine lv_sipush (v := 6000) hx hb dL_isMoney_323 (by decide) ?_
                          refine lv_icmp_ne (tgt := 333) hx hb dL_isMoney_326 (by decide) (fun z => absurd (P_b6 c_35 c_36 c_37) z) (fun _ => ?_)
                          exact JN_26 ls (lv_sub hl [0, 1, 2, 3, 4, 5, 6, 7, 8, 9, 10, 11] rfl)
              exact KK_j ((wk + 1)) 0 (by omega) _ rfl _ (hs_s.trans (Int32.add_zero _).symm) _ (by rw [Nat.zero_min]; rfl) ls (lv_sub hl [0, 1, 2, 3, 4, 5, 6, 7, 8, 9] rfl)
        exact KK_q (5) 0 (by omega) _ rfl _ (Int32.add_zero _).symm _ _ _ _ _ _ _ _ hw hq (by omega) (by omega) ls (lv_sub hl [0, 1, 2, 3, 4, 5, 6, 7] rfl)
      · have nc_4 : ¬ (10 ≤ k) := fun z => c_4 ((wy_ge ei_k (rfl : (10 : Int32) = nI 10) (by omega) (by decide)).mpr z)
        exact absurd nc_4 (by omega)
    | succ dk ih_dk =>
      intro k hd_k xi_k ei_k a_s ha_s H locs L f ra ar cc_k ss_k hw hq hcc_k hss_k ls hl
      refine lv_iload hx hb dL_isMoney_39 (lv_at hl 0 rfl) ?_
      refine lv_bipush (v := 10) hx hb dL_isMoney_41 (by decide) ?_
      refine lv_icmp_ge (tgt := 206) hx hb dL_isMoney_43 (by decide) (fun c_38 => ?_) (fun c_38 => ?_)
      · have nc_38 : 10 ≤ k := (wy_ge ei_k (rfl : (10 : Int32) = nI 10) (by omega) (by decide)).mp c_38
        exact absurd nc_38 (by omega)
      · have nc_38 : ¬ (10 ≤ k) := fun z => c_38 ((wy_ge ei_k (rfl : (10 : Int32) = nI 10) (by omega) (by decide)).mpr z)
        refine lv_iload hx hb dL_isMoney_46 (lv_at hl 1 rfl) ?_
        refine lv_if_eq (tgt := 206) hx hb dL_isMoney_48 (by decide) (fun z => absurd z (by decide)) (fun _ => ?_)
        refine lv_iconst (v := 0) hx hb dL_isMoney_51 (by decide) ?_
        refine lv_istore (lv' := [(8, .int 0), (7, .int xi_k), (6, .int 1), (5, .int (houS rr n wk)), (4, .int a_s), (0, .ref ox), (1, .ref ad), (2, .ref af), (3, .ref ag)]) hx hb dL_isMoney_52 hl (by decide) rfl (fun ls hl => ?_)
        refine lv_iconst (v := 0) hx hb dL_isMoney_54 (by decide) ?_
        refine lv_istore (lv' := [(9, .int 0), (8, .int 0), (7, .int xi_k), (6, .int 1), (5, .int (houS rr n wk)), (4, .int a_s), (0, .ref ox), (1, .ref ad), (2, .ref af), (3, .ref ag)]) hx hb dL_isMoney_55 hl (by decide) rfl (fun ls hl => ?_)
        refine lv_iconst (v := 0) hx hb dL_isMoney_57 (by decide) ?_
        refine lv_istore (lv' := [(10, .int 0), (9, .int 0), (8, .int 0), (7, .int xi_k), (6, .int 1), (5, .int (houS rr n wk)), (4, .int a_s), (0, .ref ox), (1, .ref ad), (2, .ref af), (3, .ref ag)]) hx hb dL_isMoney_58 hl (by decide) rfl (fun ls hl => ?_)
        have KK_j : ∀ (dj j : Nat), j + dj = n → ∀ (xi_j : Int32), xi_j = nI (j) → ∀ (b_s : Int32), b_s = allS rr k j → ∀ (m_s : Int32), m_s = nI (cb (mB rr k) j) → ∀ ls : Array Slot, lv_has ls 12 [(10, .int xi_j), (9, .int m_s), (8, .int b_s), (7, .int xi_k), (6, .int 1), (5, .int (houS rr n wk)), (4, .int a_s), (0, .ref ox), (1, .ref ad), (2, .ref af), (3, .ref ag)] → W p l e (headSpec wsL_isMoney ({ frames := 10, cells := 32, slots := 192, locals := 225 } : Room)).room s m ([.ref ox, .ref ad, .ref af, .ref ag] : List Value).toArray below meth c H locs (cc_k) (ss_k) (MQ below (wq_Q G L0 La s.heap.size (fun r1 L1 f1 fa1 => r1 = .int (bI true) ∧ fa1 = fa ∧ ∃ ra ar, wx_S G L1 f1 ox lo ra ar n km mn wk po rr)) ([.ref ox, .ref ad, .ref af, .ref ag] : List Value).toArray s 32 192 (wy_A (L0 ++ La) s.heap.size)) (F0 m 60 ls []) := by
          intro dj
          induction dj with
          | zero =>
            intro j hd_j xi_j ei_j b_s hb_s m_s hm_s ls hl
            refine lv_iload hx hb dL_isMoney_60 (lv_at hl 0 rfl) ?_
            refine lv_aload_n hx hb dL_isMoney_62 rfl (lv_at hl 10 rfl) ?_
            refine lv_iconst (v := 0) hx hb dL_isMoney_63 (by decide) ?_
            refine wy_iald hx hb hK hw.2.1.1 hR.2.2.2.2.1 (0) (rfl : (0 : Int32) = nI 0) (by omega) (by omega) dL_isMoney_64 ?_
            refine lv_icmp_ge (tgt := 120) hx hb dL_isMoney_65 (by decide) (fun c_39 => ?_) (fun c_39 => ?_)
            · have nc_39 : n ≤ j := (wy_ge ei_j hB.2.2.2.2.2.2.1 (by omega) (by omega)).mp c_39
              obtain rfl : n = j := by omega
              refine lv_aload_n hx hb dL_isMoney_120 rfl (lv_at hl 7 rfl) ?_
              refine lv_iload hx hb dL_isMoney_121 (lv_at hl 3 rfl) ?_
              refine wq_call0 (vx_runSX (As := [.ref ox, .int xi_k]) (rest := []) ⟨hx, hb, hml, hown, hts⟩ (m_L_average l hnt (fa := fa) hq (xi_k)) (vx_cwSW 2 hts gL_isMoney_L_average rfl rfl rfl (by decide +kernel) ⟨Nat.le_of_ble_eq_true rfl, Nat.le_of_ble_eq_true rfl⟩) (wq_pre0 hK hE hZ hN hw hA) rfl rfl hl.1 rfl (lv_room (Nat.le_of_ble_eq_true rfl)) dL_isMoney_123 ⟨(show cc_k + 2 ≤ 32 by omega), (show ss_k + 12 ≤ 192 by omega)⟩) hw hA (fun r_40 L_40 f_40 fx_40 H locs hp hw => ?_)
              obtain ⟨er, ra, ar, hq⟩ := hp
              have er : r_40 = .float (avV rr n (k)) := er.trans (congrArg Value.float (P_av hJ ht (by omega) ei_k))
              subst er
              refine lv_fstore (lv' := [(10, .float (avV rr n k)), (9, .int m_s), (8, .int b_s), (7, .int xi_k), (6, .int 1), (5, .int (houS rr n wk)), (4, .int a_s), (0, .ref ox), (1, .ref ad), (2, .ref af), (3, .ref ag)]) hx hb dL_isMoney_126 hl (by decide) rfl (fun ls hl => ?_)
              refine lv_aload_n hx hb dL_isMoney_128 rfl (lv_at hl 7 rfl) ?_
              refine lv_iload hx hb dL_isMoney_129 (lv_at hl 3 rfl) ?_
              refine vp_callSi (W.runV (As := [.int xi_k]) (rest := []) ⟨hx, hb, hml, hown, hts⟩ (r_X1_spent l hq (xi_k) (k) (by omega) ei_k) (cwV 1 hts gL_isMoney_X1_spent rfl rfl rfl (by decide +kernel) ⟨Nat.le_of_ble_eq_true rfl, Nat.le_of_ble_eq_true rfl⟩) (wy_pVR hK hw.1.1 hq.1 rfl) rfl rfl hl.1 rfl (lv_room (Nat.le_of_ble_eq_true rfl)) dL_isMoney_131 ⟨(show cc_k + 2 + 0 ≤ 32 by omega), (show ss_k + 12 + 0 ≤ 192 by omega)⟩) (fun r_41 er_41 => ?_)
              subst er_41
              refine lv_iload hx hb dL_isMoney_134 (lv_at hl 2 rfl) ?_
              refine lv_aload_n hx hb dL_isMoney_136 rfl (lv_at hl 9 rfl) ?_
              refine lv_iload hx hb dL_isMoney_137 (lv_at hl 3 rfl) ?_
              refine wy_iald hx hb hK hw.2.1.1 hR.2.2.2.1 (k) ei_k (by omega) (by omega) dL_isMoney_139 ?_
              refine lv_isub hx hb dL_isMoney_140 ?_
              refine lv_topi (fun x_42 ex_42 => ?_)
              refine lv_icmp_ne (tgt := 186) hx hb dL_isMoney_141 (by decide) (fun z => absurd ((P_sp hJ hB (r := k) (by omega)).trans (by rw [ex_42, hb_s])) z) (fun _ => ?_)
              refine lv_iload hx hb dL_isMoney_144 (lv_at hl 1 rfl) ?_
              refine lv_if_ne (tgt := 160) hx hb dL_isMoney_146 (by decide) (fun c_43 => ?_) (fun c_43 => ?_)
              · have c_many : ¬ cb (mB rr k) n = 0 := fun z => c_43 (by rw [hm_s, z]; rfl)
                refine lv_fload hx hb dL_isMoney_160 (lv_at hl 0 rfl) ?_
                refine lv_iload hx hb dL_isMoney_162 (lv_at hl 2 rfl) ?_
                refine lv_i2f hx hb dL_isMoney_164 ?_
                refine lv_iload hx hb dL_isMoney_165 (lv_at hl 1 rfl) ?_
                refine lv_i2f hx hb dL_isMoney_167 ?_
                rw [hb_s, hm_s]
                refine lv_fdiv hx hb dL_isMoney_168 (mean_n (allS rr k n) c_many (Nat.le_trans (cb_le _ _) (by omega))) ?_
                refine lv_fcmp hx hb dL_isMoney_169 ?_
                refine lv_if_ne (tgt := 186) hx hb dL_isMoney_170 (by decide) (fun z => absurd (P_f1 hn20 c_many) z) (fun _ => ?_)
                refine lv_aload_n hx hb dL_isMoney_173 rfl (lv_at hl 7 rfl) ?_
                refine lv_iload hx hb dL_isMoney_174 (lv_at hl 3 rfl) ?_
                refine vp_callSi (W.runV (As := [.int xi_k]) (rest := []) ⟨hx, hb, hml, hown, hts⟩ (r_X1_spent l hq (xi_k) (k) (by omega) ei_k) (cwV 1 hts gL_isMoney_X1_spent rfl rfl rfl (by decide +kernel) ⟨Nat.le_of_ble_eq_true rfl, Nat.le_of_ble_eq_true rfl⟩) (wy_pVR hK hw.1.1 hq.1 rfl) rfl rfl hl.1 rfl (lv_room (Nat.le_of_ble_eq_true rfl)) dL_isMoney_176 ⟨(show cc_k + 2 + 0 ≤ 32 by omega), (show ss_k + 12 + 0 ≤ 192 by omega)⟩) (fun r_44 er_44 => ?_)
                subst er_44
                refine lv_if_lt (tgt := 186) hx hb dL_isMoney_179 (by decide) (fun z => absurd z (P_spn hJ ht (r := k) (by omega))) (fun _ => ?_)
                refine lv_iconst (v := 1) hx hb dL_isMoney_182 (by decide) ?_
                refine lv_goto (tgt := 187) hx hb dL_isMoney_183 (by decide) ?_
                refine lv_istore (lv' := [(6, .int 1), (10, .float (avV rr n k)), (9, .int m_s), (8, .int b_s), (7, .int xi_k), (5, .int (houS rr n wk)), (4, .int a_s), (0, .ref ox), (1, .ref ad), (2, .ref af), (3, .ref ag)]) hx hb dL_isMoney_187 hl (by decide) rfl (fun ls hl => ?_)
                refine lv_iload hx hb dL_isMoney_189 (lv_at hl 6 rfl) ?_
                refine lv_aload_n hx hb dL_isMoney_191 rfl (lv_at hl 7 rfl) ?_
                refine lv_iload hx hb dL_isMoney_192 (lv_at hl 4 rfl) ?_
                refine vp_callSi (W.runV (As := [.int xi_k]) (rest := [.int a_s]) ⟨hx, hb, hml, hown, hts⟩ (r_X1_spent l hq (xi_k) (k) (by omega) ei_k) (cwV 1 hts gL_isMoney_X1_spent rfl rfl rfl (by decide +kernel) ⟨Nat.le_of_ble_eq_true rfl, Nat.le_of_ble_eq_true rfl⟩) (wy_pVR hK hw.1.1 hq.1 rfl) rfl rfl hl.1 rfl (lv_room (Nat.le_of_ble_eq_true rfl)) dL_isMoney_194 ⟨(show cc_k + 2 + 0 ≤ 32 by omega), (show ss_k + 12 + 0 ≤ 192 by omega)⟩) (fun r_45 er_45 => ?_)
                subst er_45
                refine lv_iadd hx hb dL_isMoney_197 ?_
                refine lv_topi (fun x_46 ex_46 => ?_)
                refine lv_istore (lv' := [(4, .int x_46), (6, .int 1), (10, .float (avV rr n k)), (9, .int m_s), (8, .int b_s), (7, .int xi_k), (5, .int (houS rr n wk)), (0, .ref ox), (1, .ref ad), (2, .ref af), (3, .ref ag)]) hx hb dL_isMoney_198 hl (by decide) rfl (fun ls hl => ?_)
                obtain ⟨x_47, ex_47⟩ : ∃ y : Int32, y = xi_k + 1 := ⟨_, rfl⟩
                have nx_47 : x_47 = nI (k + 1) := by rw [ex_47, ei_k, nI_1]
                refine lv_iinc (v := x_47) (lv' := [(7, .int x_47), (4, .int x_46), (6, .int 1), (10, .float (avV rr n k)), (9, .int m_s), (8, .int b_s), (5, .int (houS rr n wk)), (0, .ref ox), (1, .ref ad), (2, .ref af), (3, .ref ag)]) hx hb dL_isMoney_200 hl (k := 5) rfl (by rw [ex_47]; rfl) (by decide) rfl (fun ls hl => ?_)
                refine lv_goto (tgt := 39) hx hb dL_isMoney_203 (by decide) ?_
                exact ih_dk (k + 1) (by omega) _ nx_47 _ (by rw [ex_46, ha_s]; rfl) _ _ _ _ _ _ _ _ hw hq (by omega) (by omega) ls (lv_sub hl [0, 2, 6, 1, 7, 8, 9, 10] rfl)
              · have c_few : cb (mB rr k) n = 0 := (nI_eq (b := 0) (Nat.lt_of_le_of_lt (cb_le _ _) (by omega)) (by decide)).mp (hm_s.symm.trans c_43)
                refine lv_fload hx hb dL_isMoney_149 (lv_at hl 0 rfl) ?_
                refine lv_ldcf (v := 3240099840) hx hb hown (hts (.constantFloat RL 99 (3240099840)) (by decide +kernel)) dL_isMoney_151 ?_
                refine lv_fcmp hx hb dL_isMoney_153 ?_
                refine lv_if_ne (tgt := 186) hx hb dL_isMoney_154 (by decide) (fun z => absurd (P_f0 c_few) z) (fun _ => ?_)
                refine lv_goto (tgt := 173) hx hb dL_isMoney_157 (by decide) ?_
                refine lv_aload_n hx hb dL_isMoney_173 rfl (lv_at hl 7 rfl) ?_
                refine lv_iload hx hb dL_isMoney_174 (lv_at hl 3 rfl) ?_
                refine vp_callSi (W.runV (As := [.int xi_k]) (rest := []) ⟨hx, hb, hml, hown, hts⟩ (r_X1_spent l hq (xi_k) (k) (by omega) ei_k) (cwV 1 hts gL_isMoney_X1_spent rfl rfl rfl (by decide +kernel) ⟨Nat.le_of_ble_eq_true rfl, Nat.le_of_ble_eq_true rfl⟩) (wy_pVR hK hw.1.1 hq.1 rfl) rfl rfl hl.1 rfl (lv_room (Nat.le_of_ble_eq_true rfl)) dL_isMoney_176 ⟨(show cc_k + 2 + 0 ≤ 32 by omega), (show ss_k + 12 + 0 ≤ 192 by omega)⟩) (fun r_48 er_48 => ?_)
                subst er_48
                refine lv_if_lt (tgt := 186) hx hb dL_isMoney_179 (by decide) (fun z => absurd z (P_spn hJ ht (r := k) (by omega))) (fun _ => ?_)
                refine lv_iconst (v := 1) hx hb dL_isMoney_182 (by decide) ?_
                refine lv_goto (tgt := 187) hx hb dL_isMoney_183 (by decide) ?_
                refine lv_istore (lv' := [(6, .int 1), (10, .float (avV rr n k)), (9, .int m_s), (8, .int b_s), (7, .int xi_k), (5, .int (houS rr n wk)), (4, .int a_s), (0, .ref ox), (1, .ref ad), (2, .ref af), (3, .ref ag)]) hx hb dL_isMoney_187 hl (by decide) rfl (fun ls hl => ?_)
                refine lv_iload hx hb dL_isMoney_189 (lv_at hl 6 rfl) ?_
                refine lv_aload_n hx hb dL_isMoney_191 rfl (lv_at hl 7 rfl) ?_
                refine lv_iload hx hb dL_isMoney_192 (lv_at hl 4 rfl) ?_
                refine vp_callSi (W.runV (As := [.int xi_k]) (rest := [.int a_s]) ⟨hx, hb, hml, hown, hts⟩ (r_X1_spent l hq (xi_k) (k) (by omega) ei_k) (cwV 1 hts gL_isMoney_X1_spent rfl rfl rfl (by decide +kernel) ⟨Nat.le_of_ble_eq_true rfl, Nat.le_of_ble_eq_true rfl⟩) (wy_pVR hK hw.1.1 hq.1 rfl) rfl rfl hl.1 rfl (lv_room (Nat.le_of_ble_eq_true rfl)) dL_isMoney_194 ⟨(show cc_k + 2 + 0 ≤ 32 by omega), (show ss_k + 12 + 0 ≤ 192 by omega)⟩) (fun r_49 er_49 => ?_)
                subst er_49
                refine lv_iadd hx hb dL_isMoney_197 ?_
                refine lv_topi (fun x_50 ex_50 => ?_)
                refine lv_istore (lv' := [(4, .int x_50), (6, .int 1), (10, .float (avV rr n k)), (9, .int m_s), (8, .int b_s), (7, .int xi_k), (5, .int (houS rr n wk)), (0, .ref ox), (1, .ref ad), (2, .ref af), (3, .ref ag)]) hx hb dL_isMoney_198 hl (by decide) rfl (fun ls hl => ?_)
                obtain ⟨x_51, ex_51⟩ : ∃ y : Int32, y = xi_k + 1 := ⟨_, rfl⟩
                have nx_51 : x_51 = nI (k + 1) := by rw [ex_51, ei_k, nI_1]
                refine lv_iinc (v := x_51) (lv' := [(7, .int x_51), (4, .int x_50), (6, .int 1), (10, .float (avV rr n k)), (9, .int m_s), (8, .int b_s), (5, .int (houS rr n wk)), (0, .ref ox), (1, .ref ad), (2, .ref af), (3, .ref ag)]) hx hb dL_isMoney_200 hl (k := 5) rfl (by rw [ex_51]; rfl) (by decide) rfl (fun ls hl => ?_)
                refine lv_goto (tgt := 39) hx hb dL_isMoney_203 (by decide) ?_
                exact ih_dk (k + 1) (by omega) _ nx_51 _ (by rw [ex_50, ha_s]; rfl) _ _ _ _ _ _ _ _ hw hq (by omega) (by omega) ls (lv_sub hl [0, 2, 6, 1, 7, 8, 9, 10] rfl)
            · have nc_39 : ¬ (n ≤ j) := fun z => c_39 ((wy_ge ei_j hB.2.2.2.2.2.2.1 (by omega) (by omega)).mpr z)
              exact absurd nc_39 (by omega)
          | succ dj ih_dj =>
            intro j hd_j xi_j ei_j b_s hb_s m_s hm_s ls hl
            refine lv_iload hx hb dL_isMoney_60 (lv_at hl 0 rfl) ?_
            refine lv_aload_n hx hb dL_isMoney_62 rfl (lv_at hl 10 rfl) ?_
            refine lv_iconst (v := 0) hx hb dL_isMoney_63 (by decide) ?_
            refine wy_iald hx hb hK hw.2.1.1 hR.2.2.2.2.1 (0) (rfl : (0 : Int32) = nI 0) (by omega) (by omega) dL_isMoney_64 ?_
            refine lv_icmp_ge (tgt := 120) hx hb dL_isMoney_65 (by decide) (fun c_52 => ?_) (fun c_52 => ?_)
            · have nc_52 : n ≤ j := (wy_ge ei_j hB.2.2.2.2.2.2.1 (by omega) (by omega)).mp c_52
              exact absurd nc_52 (by omega)
            · have nc_52 : ¬ (n ≤ j) := fun z => c_52 ((wy_ge ei_j hB.2.2.2.2.2.2.1 (by omega) (by omega)).mpr z)
              have JN_54 : ∀ (y_53 : Int32), y_53 = (if rfi (rr j) = true then rch (rr j) k else 0) → ∀ ls : Array Slot, lv_has ls 12 [(10, .int xi_j), (9, .int m_s), (8, .int b_s), (7, .int xi_k), (6, .int 1), (5, .int (houS rr n wk)), (4, .int a_s), (0, .ref ox), (1, .ref ad), (2, .ref af), (3, .ref ag)] → W p l e (headSpec wsL_isMoney ({ frames := 10, cells := 32, slots := 192, locals := 225 } : Room)).room s m ([.ref ox, .ref ad, .ref af, .ref ag] : List Value).toArray below meth c H locs (cc_k) (ss_k) (MQ below (wq_Q G L0 La s.heap.size (fun r1 L1 f1 fa1 => r1 = .int (bI true) ∧ fa1 = fa ∧ ∃ ra ar, wx_S G L1 f1 ox lo ra ar n km mn wk po rr)) ([.ref ox, .ref ad, .ref af, .ref ag] : List Value).toArray s 32 192 (wy_A (L0 ++ La) s.heap.size)) (F0 m 90 ls [.int y_53]) := by
                intro y_53 hy_53 ls hl
                refine lv_istore (lv' := [(11, .int y_53), (10, .int xi_j), (9, .int m_s), (8, .int b_s), (7, .int xi_k), (6, .int 1), (5, .int (houS rr n wk)), (4, .int a_s), (0, .ref ox), (1, .ref ad), (2, .ref af), (3, .ref ag)]) hx hb dL_isMoney_90 hl (by decide) rfl (fun ls hl => ?_)
                refine lv_iload hx hb dL_isMoney_92 (lv_at hl 3 rfl) ?_
                refine lv_iload hx hb dL_isMoney_94 (lv_at hl 0 rfl) ?_
                refine lv_iadd hx hb dL_isMoney_96 ?_
                refine lv_topi (fun x_55 ex_55 => ?_)
                refine lv_istore (lv' := [(8, .int x_55), (11, .int y_53), (10, .int xi_j), (9, .int m_s), (7, .int xi_k), (6, .int 1), (5, .int (houS rr n wk)), (4, .int a_s), (0, .ref ox), (1, .ref ad), (2, .ref af), (3, .ref ag)]) hx hb dL_isMoney_97 hl (by decide) rfl (fun ls hl => ?_)
                refine lv_iload hx hb dL_isMoney_99 (lv_at hl 3 rfl) ?_
                have JN_57 : ∀ (y_56 : Int32), y_56 = bI (mB rr k j) → ∀ ls : Array Slot, lv_has ls 12 [(8, .int x_55), (11, .int y_53), (10, .int xi_j), (9, .int m_s), (7, .int xi_k), (6, .int 1), (5, .int (houS rr n wk)), (4, .int a_s), (0, .ref ox), (1, .ref ad), (2, .ref af), (3, .ref ag)] → W p l e (headSpec wsL_isMoney ({ frames := 10, cells := 32, slots := 192, locals := 225 } : Room)).room s m ([.ref ox, .ref ad, .ref af, .ref ag] : List Value).toArray below meth c H locs (cc_k) (ss_k) (MQ below (wq_Q G L0 La s.heap.size (fun r1 L1 f1 fa1 => r1 = .int (bI true) ∧ fa1 = fa ∧ ∃ ra ar, wx_S G L1 f1 ox lo ra ar n km mn wk po rr)) ([.ref ox, .ref ad, .ref af, .ref ag] : List Value).toArray s 32 192 (wy_A (L0 ++ La) s.heap.size)) (F0 m 111 ls [.int y_56, .int m_s]) := by
                  intro y_56 hy_56 ls hl
                  refine lv_iadd hx hb dL_isMoney_111 ?_
                  refine lv_topi (fun x_58 ex_58 => ?_)
                  refine lv_istore (lv' := [(9, .int x_58), (8, .int x_55), (11, .int y_53), (10, .int xi_j), (7, .int xi_k), (6, .int 1), (5, .int (houS rr n wk)), (4, .int a_s), (0, .ref ox), (1, .ref ad), (2, .ref af), (3, .ref ag)]) hx hb dL_isMoney_112 hl (by decide) rfl (fun ls hl => ?_)
                  obtain ⟨x_59, ex_59⟩ : ∃ y : Int32, y = xi_j + 1 := ⟨_, rfl⟩
                  have nx_59 : x_59 = nI (j + 1) := by rw [ex_59, ei_j, nI_1]
                  refine lv_iinc (v := x_59) (lv' := [(10, .int x_59), (9, .int x_58), (8, .int x_55), (11, .int y_53), (7, .int xi_k), (6, .int 1), (5, .int (houS rr n wk)), (4, .int a_s), (0, .ref ox), (1, .ref ad), (2, .ref af), (3, .ref ag)]) hx hb dL_isMoney_114 hl (k := 3) rfl (by rw [ex_59]; rfl) (by decide) rfl (fun ls hl => ?_)
                  refine lv_goto (tgt := 60) hx hb dL_isMoney_117 (by decide) ?_
                  exact ih_dj (j + 1) (by omega) _ nx_59 _ (by rw [ex_55, hb_s, hy_53]; rfl) _ (by rw [ex_58, hm_s, hy_56]; exact cb_bI _ _) ls (lv_sub hl [0, 1, 2, 4, 5, 6, 7, 8, 9, 10, 11] rfl)
                refine lv_iload hx hb dL_isMoney_101 (lv_at hl 1 rfl) ?_
                refine lv_if_le (tgt := 110) hx hb dL_isMoney_103 (by decide) (fun c_60 => ?_) (fun c_60 => ?_)
                · refine lv_iconst (v := 0) hx hb dL_isMoney_110 (by decide) ?_
                  exact JN_57 _ (P_mb0 hy_53 c_60) ls (lv_sub hl [0, 1, 2, 3, 4, 5, 6, 7, 8, 9, 10, 11] rfl)
                · refine lv_iconst (v := 1) hx hb dL_isMoney_106 (by decide) ?_
                  refine lv_goto (tgt := 111) hx hb dL_isMoney_107 (by decide) ?_
                  exact JN_57 _ (P_mb1 hy_53 c_60) ls (lv_sub hl [0, 1, 2, 3, 4, 5, 6, 7, 8, 9, 10, 11] rfl)
              refine lv_aload_n hx hb dL_isMoney_68 rfl (lv_at hl 8 rfl) ?_
              refine lv_bipush (v := 20) hx hb dL_isMoney_69 (by decide) ?_
              refine lv_iload hx hb dL_isMoney_71 (lv_at hl 0 rfl) ?_
              refine lv_iadd hx hb dL_isMoney_73 ?_
              refine lv_topi (fun x_61 ex_61 => ?_)
              have nx_61 : x_61 = nI (20 + j) := ex_61.trans ((congr (congrArg (fun u v : Int32 => u + v) (rfl : (20 : Int32) = nI 20)) ei_j).trans (nI_add _ _))
              refine wy_iald hx hb hK hw.2.1.1 hR.1 (20 + j) nx_61 (by omega) (by omega) dL_isMoney_74 ?_
              refine lv_if_ne (tgt := 82) hx hb dL_isMoney_75 (by decide) (fun c_62 => ?_) (fun c_62 => ?_)
              · have bc_62 : (rfi (rr j)) = true := bI_1 (fun z => c_62 ((hB.2.1 (j) (by omega)).trans z))
                refine lv_aload_n hx hb dL_isMoney_82 rfl (lv_at hl 7 rfl) ?_
                refine lv_iload hx hb dL_isMoney_83 (lv_at hl 0 rfl) ?_
                refine lv_iload hx hb dL_isMoney_85 (lv_at hl 3 rfl) ?_
                refine vp_callSi (W.runV (As := [.int xi_j, .int xi_k]) (rest := []) ⟨hx, hb, hml, hown, hts⟩ (r_X1_charge l hq (xi_j) (xi_k) (j) (k) (by omega) (by omega) ei_j ei_k) (cwV 2 hts gL_isMoney_X1_charge rfl rfl rfl (by decide +kernel) ⟨Nat.le_of_ble_eq_true rfl, Nat.le_of_ble_eq_true rfl⟩) (wy_pVR hK hw.1.1 hq.1 rfl) rfl rfl hl.1 rfl (lv_room (Nat.le_of_ble_eq_true rfl)) dL_isMoney_87 ⟨(show cc_k + 0 ≤ 32 by omega), (show ss_k + 0 ≤ 192 by omega)⟩) (fun r_63 er_63 => ?_)
                subst er_63
                exact JN_54 _ (by simp [bc_62]) ls (lv_sub hl [0, 1, 2, 3, 4, 5, 6, 7, 8, 9, 10] rfl)
              · have bc_62 : (rfi (rr j)) = false := bI_0 ((hB.2.1 (j) (by omega)).symm.trans c_62)
                refine lv_iconst (v := 0) hx hb dL_isMoney_78 (by decide) ?_
                refine lv_goto (tgt := 90) hx hb dL_isMoney_79 (by decide) ?_
                exact JN_54 _ (by simp [bc_62]) ls (lv_sub hl [0, 1, 2, 3, 4, 5, 6, 7, 8, 9, 10] rfl)
        exact KK_j (n) 0 (by omega) _ rfl _ rfl _ rfl ls (lv_sub hl [0, 1, 2, 3, 4, 5, 6, 7, 8, 9, 10] rfl)
  exact KK_k (10) 0 (by omega) _ rfl _ rfl _ _ _ _ _ _ _ _ hw hq (by omega) (by omega) ls (lv_sub hl [0, 1, 2, 3, 4, 5, 6, 7] rfl)
