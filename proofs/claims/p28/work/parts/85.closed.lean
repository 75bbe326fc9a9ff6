set_option maxHeartbeats 4000000 in
set_option maxRecDepth 100000 in
theorem m_L_isClosed (l : Launch) (hnt : l.stackTraces = false) {G : wy_G} {L0 La : List Nat} {f0 fa : Nat → va_E} {sz : Nat} {ox lo : Nat} {ra ar : Nat → Nat} {t n : Nat} {km mn : Int32} {wk : Nat} {po : Nat → Int32} {rr : Nat → wr_V} {ad av ao af ag : Nat} {d v o fr g : Nat → Int32} (hq : wx_S G L0 f0 ox lo ra ar n km mn wk po rr) (hR : wR G La fa ad av ao af ag d v o fr g) (hJ : wJ t n km mn wk po rr) (hB : wB n km mn wk rr d v o fr g) (ht : t ≤ 80) : Met l yL_isClosed wsL_isClosed ({ frames := 10, cells := 1, slots := 6, locals := 229 } : Room) (va_Pc [.ref ox, .ref ad, .ref ag] (wq_P G L0 f0 La fa sz)) (wq_Q G L0 La sz (fun r1 L1 f1 fa1 => r1 = .int (bI true) ∧ wZ G ox lo ad av ao af ag La (t + 1) L1 f1 fa1)) 1 6 (wy_A (L0 ++ La) sz) := by
  refine Met.ofW (cc := cL_isClosed) (maxL := 9) (ret := (some .boolean)) (by decide) rfl ?_
  intro p e s m args below meth c s₁ B hml hv
  obtain ⟨rfl, hP⟩ := hv
  obtain ⟨hw, hK, hA⟩ := wq_start hP
  obtain ⟨hv, -, -, hE, hZ, hN⟩ := hP
  have hsz := hv.1
  subst hsz
  have hx := B.exec
  have hb := B.bytes
  have hr := B.returns
  have hts := atoms_spec (ws := wsL_isClosed) B.pre
  have hown : s.vm.findClass RL = some m.cls := findClass_of_methodNamed B.named
  have hlocks := B.notSynchronized
  have hn20 : n ≤ 20 := hJ.2.1
  have hwk20 : wk ≤ 20 := hJ.2.2.1
  have hne := hR.2.2.2.2.2
  have hl := lv_entry ([.ref ox, .ref ad, .ref ag]) (n := 9) (Nat.le_of_ble_eq_true rfl)
  rw [lg_entry_eq]
  generalize (lg_sl ([.ref ox, .ref ad, .ref ag]) ++ List.replicate (9 - (lg_sl ([.ref ox, .ref ad, .ref ag])).length) Slot.unset).toArray = ls at hl ⊢
  have hl : lv_has ls 9 [(0, .ref ox), (1, .ref ad), (2, .ref ag)] := hl
  have JN_2 : ∀ (y_1 : Int32), y_1 = bI (canI rr wk 0) → ∀ ls : Array Slot, lv_has ls 9 [(0, .ref ox), (1, .ref ad), (2, .ref ag)] → W p l e (headSpec wsL_isClosed ({ frames := 10, cells := 1, slots := 6, locals := 229 } : Room)).room s m ([.ref ox, .ref ad, .ref ag] : List Value).toArray below meth c s.heap [] (0) (0) (MQ below (wq_Q G L0 La s.heap.size (fun r1 L1 f1 fa1 => r1 = .int (bI true) ∧ wZ G ox lo ad av ao af ag La (t + 1) L1 f1 fa1)) ([.ref ox, .ref ad, .ref ag] : List Value).toArray s 1 6 (wy_A (L0 ++ La) s.heap.size)) (F0 m 13 ls [.int y_1]) := by
    intro y_1 hy_1 ls hl
    refine lv_istore_n (lv' := [(3, .int y_1), (0, .ref ox), (1, .ref ad), (2, .ref ag)]) hx hb dL_isClosed_13 rfl hl (by decide) rfl (fun ls hl => ?_)
    refine lv_iconst (v := 0) hx hb dL_isClosed_14 (by decide) ?_
    refine lv_istore (lv' := [(4, .int 0), (3, .int y_1), (0, .ref ox), (1, .ref ad), (2, .ref ag)]) hx hb dL_isClosed_15 hl (by decide) rfl (fun ls hl => ?_)
    have KK_i : ∀ (di i : Nat), i + di = n → ∀ (xi_i : Int32), xi_i = nI (i) → ∀ (c_s : Int32), c_s = bI (canI rr wk i) → ∀ ls : Array Slot, lv_has ls 9 [(4, .int xi_i), (3, .int c_s), (0, .ref ox), (1, .ref ad), (2, .ref ag)] → W p l e (headSpec wsL_isClosed ({ frames := 10, cells := 1, slots := 6, locals := 229 } : Room)).room s m ([.ref ox, .ref ad, .ref ag] : List Value).toArray below meth c s.heap [] (0) (0) (MQ below (wq_Q G L0 La s.heap.size (fun r1 L1 f1 fa1 => r1 = .int (bI true) ∧ wZ G ox lo ad av ao af ag La (t + 1) L1 f1 fa1)) ([.ref ox, .ref ad, .ref ag] : List Value).toArray s 1 6 (wy_A (L0 ++ La) s.heap.size)) (F0 m 17 ls []) := by
      intro di
      induction di with
      | zero =>
        intro i hd_i xi_i ei_i c_s hc_s ls hl
        refine lv_iload hx hb dL_isClosed_17 (lv_at hl 0 rfl) ?_
        refine lv_aload_n hx hb dL_isClosed_19 rfl (lv_at hl 4 rfl) ?_
        refine lv_iconst (v := 0) hx hb dL_isClosed_20 (by decide) ?_
        refine wy_iald hx hb hK hw.2.1.1 hR.2.2.2.2.1 (0) (rfl : (0 : Int32) = nI 0) (by omega) (by omega) dL_isClosed_21 ?_
        refine lv_icmp_ge (tgt := 52) hx hb dL_isClosed_22 (by decide) (fun c_3 => ?_) (fun c_3 => ?_)
        · have nc_3 : n ≤ i := (wy_ge ei_i hB.2.2.2.2.2.2.1 (by omega) (by omega)).mp c_3
          obtain rfl : n = i := by omega
          refine lv_iconst (v := 0) hx hb dL_isClosed_52 (by decide) ?_
          refine lv_istore (lv' := [(4, .int 0), (3, .int c_s), (0, .ref ox), (1, .ref ad), (2, .ref ag)]) hx hb dL_isClosed_53 hl (by decide) rfl (fun ls hl => ?_)
          refine lv_aload_n hx hb dL_isClosed_55 rfl (lv_at hl 2 rfl) ?_
          refine vp_callSi (W.runV (As := []) (rest := []) ⟨hx, hb, hml, hown, hts⟩ (m_X1_house l hq) (cwV 0 hts gL_isClosed_X1_house rfl rfl rfl (by decide +kernel) ⟨Nat.le_of_ble_eq_true rfl, Nat.le_of_ble_eq_true rfl⟩) (wy_pVR hK hw.1.1 hq.1 rfl) rfl rfl hl.1 rfl (lv_room (Nat.le_of_ble_eq_true rfl)) dL_isClosed_56 ⟨(show 0 + 0 ≤ 1 by omega), (show 0 + 0 ≤ 6 by omega)⟩) (fun r_4 er_4 => ?_)
          subst er_4
          refine lv_istore (lv' := [(5, .int (houS rr n wk)), (4, .int 0), (3, .int c_s), (0, .ref ox), (1, .ref ad), (2, .ref ag)]) hx hb dL_isClosed_59 hl (by decide) rfl (fun ls hl => ?_)
          refine lv_iconst (v := 0) hx hb dL_isClosed_61 (by decide) ?_
          refine lv_istore (lv' := [(6, .int 0), (5, .int (houS rr n wk)), (4, .int 0), (3, .int c_s), (0, .ref ox), (1, .ref ad), (2, .ref ag)]) hx hb dL_isClosed_62 hl (by decide) rfl (fun ls hl => ?_)
          have KK_x : ∀ (dx x : Nat), x + dx = 5 → ∀ (xi_x : Int32), xi_x = nI (x) → ∀ (u_s : Int32), u_s = totW rr n po wk x → ∀ ls : Array Slot, lv_has ls 9 [(6, .int xi_x), (5, .int (houS rr n wk)), (4, .int u_s), (3, .int c_s), (0, .ref ox), (1, .ref ad), (2, .ref ag)] → W p l e (headSpec wsL_isClosed ({ frames := 10, cells := 1, slots := 6, locals := 229 } : Room)).room s m ([.ref ox, .ref ad, .ref ag] : List Value).toArray below meth c s.heap [] (0) (0) (MQ below (wq_Q G L0 La s.heap.size (fun r1 L1 f1 fa1 => r1 = .int (bI true) ∧ wZ G ox lo ad av ao af ag La (t + 1) L1 f1 fa1)) ([.ref ox, .ref ad, .ref ag] : List Value).toArray s 1 6 (wy_A (L0 ++ La) s.heap.size)) (F0 m 64 ls []) := by
            intro dx
            induction dx with
            | zero =>
              intro x hd_x xi_x ei_x u_s hu_s ls hl
              refine lv_iload hx hb dL_isClosed_64 (lv_at hl 0 rfl) ?_
              refine lv_iconst (v := 5) hx hb dL_isClosed_66 (by decide) ?_
              refine lv_icmp_ge (tgt := 110) hx hb dL_isClosed_67 (by decide) (fun c_5 => ?_) (fun c_5 => ?_)
              · have nc_5 : 5 ≤ x := (wy_ge ei_x (rfl : (5 : Int32) = nI 5) (by omega) (by decide)).mp c_5
                obtain rfl : 5 = x := by omega
                cases hcn : canI rr wk n with
                | false =>
                  refine lv_aload_n hx hb dL_isClosed_110 rfl (lv_at hl 4 rfl) ?_
                  refine lv_bipush (v := 10) hx hb dL_isClosed_111 (by decide) ?_
                  refine lv_iconst (v := 0) hx hb dL_isClosed_113 (by decide) ?_
                  refine lv_iconst (v := 0) hx hb dL_isClosed_114 (by decide) ?_
                  refine lv_iconst (v := 0) hx hb dL_isClosed_115 (by decide) ?_
                  refine lv_iconst (v := 0) hx hb dL_isClosed_116 (by decide) ?_
                  have hC_6 : cwC rr n wk = 1 := by exact cw_1 hcn hwk20
                  refine wq_call0 (vx_runSX (As := [.ref ox, .int 10, .int 0, .int 0, .int 0, .int (bI false)]) (rest := []) ⟨hx, hb, hml, hown, hts⟩ (m_L_does_closeWeek l hnt (fa := fa) hq (0) (0) (0) (false)) (vx_cwSW 6 hts gL_isClosed_L_does rfl rfl rfl (by decide +kernel) ⟨Nat.le_of_ble_eq_true rfl, Nat.le_of_ble_eq_true rfl⟩) (wq_pre0 hK hE hZ hN hw hA) rfl rfl hl.1 rfl (lv_room (Nat.le_of_ble_eq_true rfl)) dL_isClosed_117 ⟨(show 0 + 1 ≤ 1 by omega), (show 0 + 6 ≤ 6 by omega)⟩) hw hA (fun r_6 L_6 f_6 fx_6 H locs hp hw => ?_)
                  obtain ⟨er, hq⟩ := wd_er hp (by rw [hC_6]; decide) hq
                  have er : r_6 = .int (-10) := er.trans (congrArg Value.int (by rw [hC_6]; decide))
                  subst er
                  refine lv_istore (lv' := [(6, .int (-10)), (5, .int (houS rr n wk)), (4, .int u_s), (3, .int c_s), (0, .ref ox), (1, .ref ad), (2, .ref ag)]) hx hb dL_isClosed_120 hl (by decide) rfl (fun ls hl => ?_)
                  refine lv_iload_n hx hb dL_isClosed_122 rfl (lv_at hl 3 rfl) ?_
                  refine lv_if_ne (tgt := 139) hx hb dL_isClosed_123 (by decide) (fun c_7 => ?_) (fun c_7 => ?_)
                  · have bc_7 : (canI rr wk n) = true := bI_1 (fun z => c_7 (hc_s.trans z))
                    exact absurd (hcn.symm.trans bc_7) (by decide)
                  · have bc_7 : (canI rr wk n) = false := bI_0 (hc_s.symm.trans c_7)
                    refine lv_iload hx hb dL_isClosed_126 (lv_at hl 0 rfl) ?_
                    refine lv_bipush (v := (-10)) hx hb dL_isClosed_128 (by decide) ?_
                    refine lv_icmp_ne (tgt := 137) hx hb dL_isClosed_130 (by decide) (fun z => absurd z (by decide)) (fun _ => ?_)
                    refine lv_iconst (v := 1) hx hb dL_isClosed_133 (by decide) ?_
                    refine lv_goto (tgt := 138) hx hb dL_isClosed_134 (by decide) ?_
                    exact wq_zret (b := true) rfl hx hb hr hlocks dL_isClosed_138 hw (show 0 + 1 ≤ 1 by omega) (show 0 + 6 ≤ 6 by omega) ⟨rfl, ra, ar, n, km, mn, wk, po, rr, d, v, o, fr, g, hq, ⟨hR.1, hR.2.1, hR.2.2.1, hR.2.2.2.1, hR.2.2.2.2.1, hne⟩, hJ.up, hB⟩
                | true =>
                  refine lv_aload_n hx hb dL_isClosed_110 rfl (lv_at hl 4 rfl) ?_
                  refine lv_bipush (v := 10) hx hb dL_isClosed_111 (by decide) ?_
                  refine lv_iconst (v := 0) hx hb dL_isClosed_113 (by decide) ?_
                  refine lv_iconst (v := 0) hx hb dL_isClosed_114 (by decide) ?_
                  refine lv_iconst (v := 0) hx hb dL_isClosed_115 (by decide) ?_
                  refine lv_iconst (v := 0) hx hb dL_isClosed_116 (by decide) ?_
                  have hC_8 : cwC rr n wk = 0 := by exact cw_0 hcn
                  refine wq_call0 (vx_runSX (As := [.ref ox, .int 10, .int 0, .int 0, .int 0, .int (bI false)]) (rest := []) ⟨hx, hb, hml, hown, hts⟩ (m_L_does_closeWeek l hnt (fa := fa) hq (0) (0) (0) (false)) (vx_cwSW 6 hts gL_isClosed_L_does rfl rfl rfl (by decide +kernel) ⟨Nat.le_of_ble_eq_true rfl, Nat.le_of_ble_eq_true rfl⟩) (wq_pre0 hK hE hZ hN hw hA) rfl rfl hl.1 rfl (lv_room (Nat.le_of_ble_eq_true rfl)) dL_isClosed_117 ⟨(show 0 + 1 ≤ 1 by omega), (show 0 + 6 ≤ 6 by omega)⟩) hw hA (fun r_8 L_8 f_8 fx_8 H locs hp hw => ?_)
                  obtain ⟨er, ra, ar, hq⟩ := wd_ok hp hC_8
                  subst er
                  obtain ⟨po_9, hpo_9⟩ : ∃ y : Nat → Int32, y = poW rr n po wk 5 := ⟨_, rfl⟩
                  rw [← hpo_9] at hq
                  refine lv_istore (lv' := [(6, .int (totW rr n po wk 5)), (5, .int (houS rr n wk)), (4, .int u_s), (3, .int c_s), (0, .ref ox), (1, .ref ad), (2, .ref ag)]) hx hb dL_isClosed_120 hl (by decide) rfl (fun ls hl => ?_)
                  refine lv_iload_n hx hb dL_isClosed_122 rfl (lv_at hl 3 rfl) ?_
                  refine lv_if_ne (tgt := 139) hx hb dL_isClosed_123 (by decide) (fun c_10 => ?_) (fun c_10 => ?_)
                  · have bc_10 : (canI rr wk n) = true := bI_1 (fun z => c_10 (hc_s.trans z))
                    refine lv_aload_n hx hb dL_isClosed_139 rfl (lv_at hl 6 rfl) ?_
                    refine lv_iconst (v := 1) hx hb dL_isClosed_140 (by decide) ?_
                    refine lv_dup2_11 hx hb dL_isClosed_141 rfl rfl ?_
                    refine wy_iald hx hb hK hw.2.1.1 hR.2.2.2.2.1 (1) (rfl : (1 : Int32) = nI 1) (by omega) (by omega) dL_isClosed_142 ?_
                    refine lv_iconst (v := 1) hx hb dL_isClosed_143 (by decide) ?_
                    refine lv_iadd hx hb dL_isClosed_144 ?_
                    refine lv_topi (fun x_11 ex_11 => ?_)
                    have nx_11 : x_11 = nI (wk + 1) := ex_11.trans ((congr (congrArg (fun u v : Int32 => u + v) hB.2.2.2.2.2.2.2.1) (rfl : (1 : Int32) = nI 1)).trans (nI_add _ _))
                    refine wq_iast hx hb hK hw hR.2.2.2.2.1 (1) (rfl : (1 : Int32) = nI 1) (by omega) (by omega) dL_isClosed_145 (fun H locs fa_12 hc_13 hn_14 hw => ?_)
                    obtain ⟨g_15, hg_15⟩ : ∃ y, y = upd g (1) (x_11) := ⟨_, rfl⟩
                    rw [← hg_15] at hc_13
                    have hc_16 := wy_c.ne2 hR.1 hn_14 hne.2.2.2.1
                    have hc_17 := wy_c.ne2 hR.2.1 hn_14 hne.2.2.2.2.2.2.1
                    have hc_18 := wy_c.ne2 hR.2.2.1 hn_14 hne.2.2.2.2.2.2.2.2.1
                    have hc_19 := wy_c.ne2 hR.2.2.2.1 hn_14 hne.2.2.2.2.2.2.2.2.2
                    refine lv_iload hx hb dL_isClosed_146 (lv_at hl 0 rfl) ?_
                    refine lv_iload hx hb dL_isClosed_148 (lv_at hl 2 rfl) ?_
                    refine lv_icmp_ne (tgt := 166) hx hb dL_isClosed_150 (by decide) (fun z => absurd (hu_s.symm) z) (fun _ => ?_)
                    refine lv_aload_n hx hb dL_isClosed_153 rfl (lv_at hl 4 rfl) ?_
                    refine vp_callSi (W.runV (As := []) (rest := []) ⟨hx, hb, hml, hown, hts⟩ (m_X1_house l hq) (cwV 0 hts gL_isClosed_X1_house rfl rfl rfl (by decide +kernel) ⟨Nat.le_of_ble_eq_true rfl, Nat.le_of_ble_eq_true rfl⟩) (wy_pVR hK hw.1.1 hq.1 rfl) rfl rfl hl.1 rfl (lv_room (Nat.le_of_ble_eq_true rfl)) dL_isClosed_154 ⟨(show 0 + 1 + 0 ≤ 1 by omega), (show 0 + 6 + 0 ≤ 6 by omega)⟩) (fun r_20 er_20 => ?_)
                    subst er_20
                    refine lv_iload hx hb dL_isClosed_157 (lv_at hl 1 rfl) ?_
                    refine lv_icmp_ne (tgt := 166) hx hb dL_isClosed_159 (by decide) (fun z => absurd (W_hou hJ) z) (fun _ => ?_)
                    refine lv_iconst (v := 1) hx hb dL_isClosed_162 (by decide) ?_
                    refine lv_goto (tgt := 167) hx hb dL_isClosed_163 (by decide) ?_
                    refine lv_istore (lv' := [(7, .int 1), (6, .int (totW rr n po wk 5)), (5, .int (houS rr n wk)), (4, .int u_s), (3, .int c_s), (0, .ref ox), (1, .ref ad), (2, .ref ag)]) hx hb dL_isClosed_167 hl (by decide) rfl (fun ls hl => ?_)
                    refine lv_iconst (v := 0) hx hb dL_isClosed_169 (by decide) ?_
                    refine lv_istore (lv' := [(8, .int 0), (7, .int 1), (6, .int (totW rr n po wk 5)), (5, .int (houS rr n wk)), (4, .int u_s), (3, .int c_s), (0, .ref ox), (1, .ref ad), (2, .ref ag)]) hx hb dL_isClosed_170 hl (by decide) rfl (fun ls hl => ?_)
                    have KK_u : ∀ (du u : Nat), u + du = 5 → ∀ (xi_u : Int32), xi_u = nI (u) → ∀ ls : Array Slot, lv_has ls 9 [(8, .int xi_u), (7, .int 1), (6, .int (totW rr n po wk 5)), (5, .int (houS rr n wk)), (4, .int u_s), (3, .int c_s), (0, .ref ox), (1, .ref ad), (2, .ref ag)] → W p l e (headSpec wsL_isClosed ({ frames := 10, cells := 1, slots := 6, locals := 229 } : Room)).room s m ([.ref ox, .ref ad, .ref ag] : List Value).toArray below meth c H locs (0 + 1) (0 + 6) (MQ below (wq_Q G L0 La s.heap.size (fun r1 L1 f1 fa1 => r1 = .int (bI true) ∧ wZ G ox lo ad av ao af ag La (t + 1) L1 f1 fa1)) ([.ref ox, .ref ad, .ref ag] : List Value).toArray s 1 6 (wy_A (L0 ++ La) s.heap.size)) (F0 m 172 ls []) := by
                      intro du
                      induction du with
                      | zero =>
                        intro u hd_u xi_u ei_u ls hl
                        refine lv_iload hx hb dL_isClosed_172 (lv_at hl 0 rfl) ?_
                        refine lv_iconst (v := 5) hx hb dL_isClosed_174 (by decide) ?_
                        refine lv_icmp_ge (tgt := 217) hx hb dL_isClosed_175 (by decide) (fun c_21 => ?_) (fun c_21 => ?_)
                        · have nc_21 : 5 ≤ u := (wy_ge ei_u (rfl : (5 : Int32) = nI 5) (by omega) (by decide)).mp c_21
                          obtain rfl : 5 = u := by omega
                          refine lv_iload hx hb dL_isClosed_217 (lv_at hl 1 rfl) ?_
                          exact wq_zret (b := true) rfl hx hb hr hlocks dL_isClosed_219 hw (show 0 + 1 ≤ 1 by omega) (show 0 + 6 ≤ 6 by omega) ⟨rfl, ra, ar, n, km, mn, wk + 1, po_9, rr, d, v, o, fr, g_15, hq, ⟨hc_16, hc_17, hc_18, hc_19, hc_13, hne⟩, (by rw [hpo_9]; exact J_cw hJ ht hcn), B_cw hB hg_15 nx_11⟩
                        · have nc_21 : ¬ (5 ≤ u) := fun z => c_21 ((wy_ge ei_u (rfl : (5 : Int32) = nI 5) (by omega) (by decide)).mpr z)
                          exact absurd nc_21 (by omega)
                      | succ du ih_du =>
                        intro u hd_u xi_u ei_u ls hl
                        refine lv_iload hx hb dL_isClosed_172 (lv_at hl 0 rfl) ?_
                        refine lv_iconst (v := 5) hx hb dL_isClosed_174 (by decide) ?_
                        refine lv_icmp_ge (tgt := 217) hx hb dL_isClosed_175 (by decide) (fun c_22 => ?_) (fun c_22 => ?_)
                        · have nc_22 : 5 ≤ u := (wy_ge ei_u (rfl : (5 : Int32) = nI 5) (by omega) (by decide)).mp c_22
                          exact absurd nc_22 (by omega)
                        · have nc_22 : ¬ (5 ≤ u) := fun z => c_22 ((wy_ge ei_u (rfl : (5 : Int32) = nI 5) (by omega) (by decide)).mpr z)
                          refine lv_iload hx hb dL_isClosed_178 (lv_at hl 1 rfl) ?_
                          refine lv_if_eq (tgt := 217) hx hb dL_isClosed_180 (by decide) (fun z => absurd z (by decide)) (fun _ => ?_)
                          refine lv_aload_n hx hb dL_isClosed_183 rfl (lv_at hl 6 rfl) ?_
                          refine lv_iload hx hb dL_isClosed_184 (lv_at hl 0 rfl) ?_
                          refine vp_callSi (W.runV (As := [.int xi_u]) (rest := []) ⟨hx, hb, hml, hown, hts⟩ (r_X1_balance l hq (xi_u) (u) (by omega) ei_u) (cwV 1 hts gL_isClosed_X1_balance rfl rfl rfl (by decide +kernel) ⟨Nat.le_of_ble_eq_true rfl, Nat.le_of_ble_eq_true rfl⟩) (wy_pVR hK hw.1.1 hq.1 rfl) rfl rfl hl.1 rfl (lv_room (Nat.le_of_ble_eq_true rfl)) dL_isClosed_186 ⟨(show 0 + 1 + 0 ≤ 1 by omega), (show 0 + 6 + 0 ≤ 6 by omega)⟩) (fun r_23 er_23 => ?_)
                          subst er_23
                          refine lv_if_gt (tgt := 208) hx hb dL_isClosed_189 (by decide) (fun z => absurd z ((by rw [hpo_9]; exact W_bal hJ (by omega) : ¬ 0 < dueS rr n po_9 (wk + 1) u))) (fun _ => ?_)
                          refine lv_aload_n hx hb dL_isClosed_192 rfl (lv_at hl 6 rfl) ?_
                          refine lv_iload hx hb dL_isClosed_193 (lv_at hl 0 rfl) ?_
                          refine lv_aload_n hx hb dL_isClosed_195 rfl (lv_at hl 8 rfl) ?_
                          refine lv_iconst (v := 1) hx hb dL_isClosed_196 (by decide) ?_
                          refine wy_iald hx hb hK hw.2.1.1 hc_13 (1) (rfl : (1 : Int32) = nI 1) (by omega) (by omega) dL_isClosed_197 ?_
                          have hg9_24 : g_15 1 = nI (wk + 1) := by rw [hg_15, pk_us]; exact nx_11
                          refine vp_callSi (W.runV (As := [.int xi_u, .int (g_15 1)]) (rest := []) ⟨hx, hb, hml, hown, hts⟩ (r_X1_pay l hq (xi_u) (g_15 1) (u) (wk + 1) (by omega) (by omega) ei_u hg9_24) (cwV 2 hts gL_isClosed_X1_pay rfl rfl rfl (by decide +kernel) ⟨Nat.le_of_ble_eq_true rfl, Nat.le_of_ble_eq_true rfl⟩) (wy_pVR hK hw.1.1 hq.1 rfl) rfl rfl hl.1 rfl (lv_room (Nat.le_of_ble_eq_true rfl)) dL_isClosed_198 ⟨(show 0 + 1 + 0 ≤ 1 by omega), (show 0 + 6 + 0 ≤ 6 by omega)⟩) (fun r_25 er_25 => ?_)
                          subst er_25
                          refine lv_if_ne (tgt := 208) hx hb dL_isClosed_201 (by decide) (fun z => absurd ((by rw [hg9_24]; exact W_pz hJ : payS rr n xi_u (g_15 1) = 0)) z) (fun _ => ?_)
                          refine lv_iconst (v := 1) hx hb dL_isClosed_204 (by decide) ?_
                          refine lv_goto (tgt := 209) hx hb dL_isClosed_205 (by decide) ?_
                          refine lv_istore (lv' := [(7, .int 1), (8, .int xi_u), (6, .int (totW rr n po wk 5)), (5, .int (houS rr n wk)), (4, .int u_s), (3, .int c_s), (0, .ref ox), (1, .ref ad), (2, .ref ag)]) hx hb dL_isClosed_209 hl (by decide) rfl (fun ls hl => ?_)
                          obtain ⟨x_26, ex_26⟩ : ∃ y : Int32, y = xi_u + 1 := ⟨_, rfl⟩
                          have nx_26 : x_26 = nI (u + 1) := by rw [ex_26, ei_u, nI_1]
                          refine lv_iinc (v := x_26) (lv' := [(8, .int x_26), (7, .int 1), (6, .int (totW rr n po wk 5)), (5, .int (houS rr n wk)), (4, .int u_s), (3, .int c_s), (0, .ref ox), (1, .ref ad), (2, .ref ag)]) hx hb dL_isClosed_211 hl (k := 1) rfl (by rw [ex_26]; rfl) (by decide) rfl (fun ls hl => ?_)
                          refine lv_goto (tgt := 172) hx hb dL_isClosed_214 (by decide) ?_
                          exact ih_du (u + 1) (by omega) _ nx_26 ls (lv_sub hl [0, 1, 2, 3, 4, 5, 6, 7, 8] rfl)
                    exact KK_u (5) 0 (by omega) _ rfl ls (lv_sub hl [0, 1, 2, 3, 4, 5, 6, 7, 8] rfl)
                  · have bc_10 : (canI rr wk n) = false := bI_0 (hc_s.symm.trans c_10)
                    exact absurd (hcn.symm.trans bc_10) (by decide)
              · have nc_5 : ¬ (5 ≤ x) := fun z => c_5 ((wy_ge ei_x (rfl : (5 : Int32) = nI 5) (by omega) (by decide)).mpr z)
                exact absurd nc_5 (by omega)
            | succ dx ih_dx =>
              intro x hd_x xi_x ei_x u_s hu_s ls hl
              refine lv_iload hx hb dL_isClosed_64 (lv_at hl 0 rfl) ?_
              refine lv_iconst (v := 5) hx hb dL_isClosed_66 (by decide) ?_
              refine lv_icmp_ge (tgt := 110) hx hb dL_isClosed_67 (by decide) (fun c_27 => ?_) (fun c_27 => ?_)
              · have nc_27 : 5 ≤ x := (wy_ge ei_x (rfl : (5 : Int32) = nI 5) (by omega) (by decide)).mp c_27
                exact absurd nc_27 (by omega)
              · have nc_27 : ¬ (5 ≤ x) := fun z => c_27 ((wy_ge ei_x (rfl : (5 : Int32) = nI 5) (by omega) (by decide)).mpr z)
                refine lv_aload_n hx hb dL_isClosed_70 rfl (lv_at hl 4 rfl) ?_
                refine lv_iload hx hb dL_isClosed_71 (lv_at hl 0 rfl) ?_
                refine vp_callSi (W.runV (As := [.int xi_x]) (rest := []) ⟨hx, hb, hml, hown, hts⟩ (r_X1_balance l hq (xi_x) (x) (by omega) ei_x) (cwV 1 hts gL_isClosed_X1_balance rfl rfl rfl (by decide +kernel) ⟨Nat.le_of_ble_eq_true rfl, Nat.le_of_ble_eq_true rfl⟩) (wy_pVR hK hw.1.1 hq.1 rfl) rfl rfl hl.1 rfl (lv_room (Nat.le_of_ble_eq_true rfl)) dL_isClosed_73 ⟨(show 0 + 0 ≤ 1 by omega), (show 0 + 0 ≤ 6 by omega)⟩) (fun r_28 er_28 => ?_)
                subst er_28
                refine lv_aload_n hx hb dL_isClosed_76 rfl (lv_at hl 4 rfl) ?_
                refine lv_iload hx hb dL_isClosed_77 (lv_at hl 0 rfl) ?_
                refine lv_aload_n hx hb dL_isClosed_79 rfl (lv_at hl 6 rfl) ?_
                refine lv_iconst (v := 1) hx hb dL_isClosed_80 (by decide) ?_
                refine wy_iald hx hb hK hw.2.1.1 hR.2.2.2.2.1 (1) (rfl : (1 : Int32) = nI 1) (by omega) (by omega) dL_isClosed_81 ?_
                refine vp_callSi (W.runV (As := [.int xi_x, .int (g 1)]) (rest := [.int (dueS rr n po wk x)]) ⟨hx, hb, hml, hown, hts⟩ (r_X1_pay l hq (xi_x) (g 1) (x) (wk) (by omega) (by omega) ei_x hB.2.2.2.2.2.2.2.1) (cwV 2 hts gL_isClosed_X1_pay rfl rfl rfl (by decide +kernel) ⟨Nat.le_of_ble_eq_true rfl, Nat.le_of_ble_eq_true rfl⟩) (wy_pVR hK hw.1.1 hq.1 rfl) rfl rfl hl.1 rfl (lv_room (Nat.le_of_ble_eq_true rfl)) dL_isClosed_82 ⟨(show 0 + 0 ≤ 1 by omega), (show 0 + 0 ≤ 6 by omega)⟩) (fun r_29 er_29 => ?_)
                subst er_29
                refine lv_iadd hx hb dL_isClosed_85 ?_
                refine lv_topi (fun x_30 ex_30 => ?_)
                refine lv_istore (lv' := [(7, .int x_30), (6, .int xi_x), (5, .int (houS rr n wk)), (4, .int u_s), (3, .int c_s), (0, .ref ox), (1, .ref ad), (2, .ref ag)]) hx hb dL_isClosed_86 hl (by decide) rfl (fun ls hl => ?_)
                have hits : x_30 = dueW rr n po wk x := by rw [ex_30, ei_x, hB.2.2.2.2.2.2.2.1]; exact W_its
                refine lv_iload hx hb dL_isClosed_88 (lv_at hl 3 rfl) ?_
                refine lv_iload hx hb dL_isClosed_90 (lv_at hl 0 rfl) ?_
                refine lv_if_le (tgt := 100) hx hb dL_isClosed_92 (by decide) (fun c_31 => ?_) (fun c_31 => ?_)
                · refine lv_iconst (v := 0) hx hb dL_isClosed_100 (by decide) ?_
                  refine lv_iadd hx hb dL_isClosed_101 ?_
                  refine lv_topi (fun x_32 ex_32 => ?_)
                  refine lv_istore (lv' := [(4, .int x_32), (7, .int x_30), (6, .int xi_x), (5, .int (houS rr n wk)), (3, .int c_s), (0, .ref ox), (1, .ref ad), (2, .ref ag)]) hx hb dL_isClosed_102 hl (by decide) rfl (fun ls hl => ?_)
                  obtain ⟨x_33, ex_33⟩ : ∃ y : Int32, y = xi_x + 1 := ⟨_, rfl⟩
                  have nx_33 : x_33 = nI (x + 1) := by rw [ex_33, ei_x, nI_1]
                  refine lv_iinc (v := x_33) (lv' := [(6, .int x_33), (4, .int x_32), (7, .int x_30), (5, .int (houS rr n wk)), (3, .int c_s), (0, .ref ox), (1, .ref ad), (2, .ref ag)]) hx hb dL_isClosed_104 hl (k := 2) rfl (by rw [ex_33]; rfl) (by decide) rfl (fun ls hl => ?_)
                  refine lv_goto (tgt := 64) hx hb dL_isClosed_107 (by decide) ?_
                  exact ih_dx (x + 1) (by omega) _ nx_33 _ (by rw [ex_32, hu_s]; exact W_st0 (by rw [← hits]; exact Int32.not_lt.mpr c_31)) ls (lv_sub hl [0, 3, 1, 4, 5, 6, 7] rfl)
                · refine lv_iload hx hb dL_isClosed_95 (lv_at hl 0 rfl) ?_
                  refine lv_goto (tgt := 101) hx hb dL_isClosed_97 (by decide) ?_
                  refine lv_iadd hx hb dL_isClosed_101 ?_
                  refine lv_topi (fun x_34 ex_34 => ?_)
                  refine lv_istore (lv' := [(4, .int x_34), (7, .int x_30), (6, .int xi_x), (5, .int (houS rr n wk)), (3, .int c_s), (0, .ref ox), (1, .ref ad), (2, .ref ag)]) hx hb dL_isClosed_102 hl (by decide) rfl (fun ls hl => ?_)
                  obtain ⟨x_35, ex_35⟩ : ∃ y : Int32, y = xi_x + 1 := ⟨_, rfl⟩
                  have nx_35 : x_35 = nI (x + 1) := by rw [ex_35, ei_x, nI_1]
                  refine lv_iinc (v := x_35) (lv' := [(6, .int x_35), (4, .int x_34), (7, .int x_30), (5, .int (houS rr n wk)), (3, .int c_s), (0, .ref ox), (1, .ref ad), (2, .ref ag)]) hx hb dL_isClosed_104 hl (k := 2) rfl (by rw [ex_35]; rfl) (by decide) rfl (fun ls hl => ?_)
                  refine lv_goto (tgt := 64) hx hb dL_isClosed_107 (by decide) ?_
                  exact ih_dx (x + 1) (by omega) _ nx_35 _ (by rw [ex_34, hu_s, hits]; exact W_st1 (by rw [← hits]; exact Int32.not_le.mp c_31)) ls (lv_sub hl [0, 3, 1, 4, 5, 6, 7] rfl)
          exact KK_x (5) 0 (by omega) _ rfl _ rfl ls (lv_sub hl [0, 1, 2, 3, 4, 5, 6] rfl)
        · have nc_3 : ¬ (n ≤ i) := fun z => c_3 ((wy_ge ei_i hB.2.2.2.2.2.2.1 (by omega) (by omega)).mpr z)
          exact absurd nc_3 (by omega)
      | succ di ih_di =>
        intro i hd_i xi_i ei_i c_s hc_s ls hl
        refine lv_iload hx hb dL_isClosed_17 (lv_at hl 0 rfl) ?_
        refine lv_aload_n hx hb dL_isClosed_19 rfl (lv_at hl 4 rfl) ?_
        refine lv_iconst (v := 0) hx hb dL_isClosed_20 (by decide) ?_
        refine wy_iald hx hb hK hw.2.1.1 hR.2.2.2.2.1 (0) (rfl : (0 : Int32) = nI 0) (by omega) (by omega) dL_isClosed_21 ?_
        refine lv_icmp_ge (tgt := 52) hx hb dL_isClosed_22 (by decide) (fun c_36 => ?_) (fun c_36 => ?_)
        · have nc_36 : n ≤ i := (wy_ge ei_i hB.2.2.2.2.2.2.1 (by omega) (by omega)).mp c_36
          exact absurd nc_36 (by omega)
        · have nc_36 : ¬ (n ≤ i) := fun z => c_36 ((wy_ge ei_i hB.2.2.2.2.2.2.1 (by omega) (by omega)).mpr z)
          refine lv_iload_n hx hb dL_isClosed_25 rfl (lv_at hl 1 rfl) ?_
          refine lv_if_eq (tgt := 44) hx hb dL_isClosed_26 (by decide) (fun c_37 => ?_) (fun c_37 => ?_)
          · have bc_37 : (canI rr wk i) = false := bI_0 (hc_s.symm.trans c_37)
            refine lv_iconst (v := 0) hx hb dL_isClosed_44 (by decide) ?_
            refine lv_istore_n (lv' := [(3, .int 0), (4, .int xi_i), (0, .ref ox), (1, .ref ad), (2, .ref ag)]) hx hb dL_isClosed_45 rfl hl (by decide) rfl (fun ls hl => ?_)
            obtain ⟨x_38, ex_38⟩ : ∃ y : Int32, y = xi_i + 1 := ⟨_, rfl⟩
            have nx_38 : x_38 = nI (i + 1) := by rw [ex_38, ei_i, nI_1]
            refine lv_iinc (v := x_38) (lv' := [(4, .int x_38), (3, .int 0), (0, .ref ox), (1, .ref ad), (2, .ref ag)]) hx hb dL_isClosed_46 hl (k := 1) rfl (by rw [ex_38]; rfl) (by decide) rfl (fun ls hl => ?_)
            refine lv_goto (tgt := 17) hx hb dL_isClosed_49 (by decide) ?_
            exact ih_di (i + 1) (by omega) _ nx_38 _ (can_f1 bc_37) ls (lv_sub hl [0, 1, 2, 3, 4] rfl)
          · have bc_37 : (canI rr wk i) = true := bI_1 (fun z => c_37 (hc_s.trans z))
            refine lv_aload_n hx hb dL_isClosed_29 rfl (lv_at hl 3 rfl) ?_
            refine lv_bipush (v := 20) hx hb dL_isClosed_30 (by decide) ?_
            refine lv_iload hx hb dL_isClosed_32 (lv_at hl 0 rfl) ?_
            refine lv_iadd hx hb dL_isClosed_34 ?_
            refine lv_topi (fun x_39 ex_39 => ?_)
            have nx_39 : x_39 = nI (20 + i) := ex_39.trans ((congr (congrArg (fun u v : Int32 => u + v) (rfl : (20 : Int32) = nI 20)) ei_i).trans (nI_add _ _))
            refine wy_iald hx hb hK hw.2.1.1 hR.1 (20 + i) nx_39 (by omega) (by omega) dL_isClosed_35 ?_
            refine lv_iconst (v := 1) hx hb dL_isClosed_36 (by decide) ?_
            refine lv_icmp_ne (tgt := 44) hx hb dL_isClosed_37 (by decide) (fun c_40 => ?_) (fun c_40 => ?_)
            · have bc_40 : (rfi (rr i)) = false := bI_n1 (fun z => c_40 ((hB.2.1 (i) (by omega)).trans z))
              refine lv_iconst (v := 0) hx hb dL_isClosed_44 (by decide) ?_
              refine lv_istore_n (lv' := [(3, .int 0), (4, .int xi_i), (0, .ref ox), (1, .ref ad), (2, .ref ag)]) hx hb dL_isClosed_45 rfl hl (by decide) rfl (fun ls hl => ?_)
              obtain ⟨x_41, ex_41⟩ : ∃ y : Int32, y = xi_i + 1 := ⟨_, rfl⟩
              have nx_41 : x_41 = nI (i + 1) := by rw [ex_41, ei_i, nI_1]
              refine lv_iinc (v := x_41) (lv' := [(4, .int x_41), (3, .int 0), (0, .ref ox), (1, .ref ad), (2, .ref ag)]) hx hb dL_isClosed_46 hl (k := 1) rfl (by rw [ex_41]; rfl) (by decide) rfl (fun ls hl => ?_)
              refine lv_goto (tgt := 17) hx hb dL_isClosed_49 (by decide) ?_
              exact ih_di (i + 1) (by omega) _ nx_41 _ (can_f2 bc_40) ls (lv_sub hl [0, 1, 2, 3, 4] rfl)
            · have bc_40 : (rfi (rr i)) = true := bI_e1 ((hB.2.1 (i) (by omega)).symm.trans c_40)
              refine lv_iconst (v := 1) hx hb dL_isClosed_40 (by decide) ?_
              refine lv_goto (tgt := 45) hx hb dL_isClosed_41 (by decide) ?_
              refine lv_istore_n (lv' := [(3, .int 1), (4, .int xi_i), (0, .ref ox), (1, .ref ad), (2, .ref ag)]) hx hb dL_isClosed_45 rfl hl (by decide) rfl (fun ls hl => ?_)
              obtain ⟨x_42, ex_42⟩ : ∃ y : Int32, y = xi_i + 1 := ⟨_, rfl⟩
              have nx_42 : x_42 = nI (i + 1) := by rw [ex_42, ei_i, nI_1]
              refine lv_iinc (v := x_42) (lv' := [(4, .int x_42), (3, .int 1), (0, .ref ox), (1, .ref ad), (2, .ref ag)]) hx hb dL_isClosed_46 hl (k := 1) rfl (by rw [ex_42]; rfl) (by decide) rfl (fun ls hl => ?_)
              refine lv_goto (tgt := 17) hx hb dL_isClosed_49 (by decide) ?_
              exact ih_di (i + 1) (by omega) _ nx_42 _ (can_t bc_37 bc_40) ls (lv_sub hl [0, 1, 2, 3, 4] rfl)
    exact KK_i (n) 0 (by omega) _ rfl _ hy_1 ls (lv_sub hl [0, 1, 2, 3, 4] rfl)
  refine lv_aload_n hx hb dL_isClosed_0 rfl (lv_at hl 2 rfl) ?_
  refine lv_iconst (v := 1) hx hb dL_isClosed_1 (by decide) ?_
  refine wy_iald hx hb hK hw.2.1.1 hR.2.2.2.2.1 (1) (rfl : (1 : Int32) = nI 1) (by omega) (by omega) dL_isClosed_2 ?_
  refine lv_bipush (v := 20) hx hb dL_isClosed_3 (by decide) ?_
  refine lv_icmp_ge (tgt := 12) hx hb dL_isClosed_5 (by decide) (fun c_43 => ?_) (fun c_43 => ?_)
  · have nc_43 : 20 ≤ wk := (wy_ge hB.2.2.2.2.2.2.2.1 (rfl : (20 : Int32) = nI 20) (by omega) (by decide)).mp c_43
    refine lv_iconst (v := 0) hx hb dL_isClosed_12 (by decide) ?_
    exact JN_2 _ (can_0f (by omega)) ls (lv_sub hl [0, 1, 2] rfl)
  · have nc_43 : ¬ (20 ≤ wk) := fun z => c_43 ((wy_ge hB.2.2.2.2.2.2.2.1 (rfl : (20 : Int32) = nI 20) (by omega) (by decide)).mpr z)
    refine lv_iconst (v := 1) hx hb dL_isClosed_8 (by decide) ?_
    refine lv_goto (tgt := 13) hx hb dL_isClosed_9 (by decide) ?_
    exact JN_2 _ (can_0t (by omega)) ls (lv_sub hl [0, 1, 2] rfl)
