/-! THE LAW'S OWN METHODS -/
theorem bI_e1 {b : Bool} (h : bI b = 1) : b = true := by cases b <;> first | rfl | (exact absurd h (by decide))
theorem bI_n1 {b : Bool} (h : ¬ bI b = 1) : b = false := by cases b <;> first | rfl | (exact absurd rfl h)
theorem wx_tr {G : wy_G} {L L' : List Nat} {f f' : Nat → va_E} {ox lo : Nat} {ra ar : Nat → Nat} {n : Nat} {km mn : Int32} {wk : Nat} {po : Nat → Int32} {rr : Nat → wr_V} (h : wx_S G L f ox lo ra ar n km mn wk po rr) (e1 : L' = L) (e2 : f' = f) : wx_S G L' f' ox lo ra ar n km mn wk po rr := by rw [e1, e2]; exact h
/-- the law's arrays: drivers, ends and stretches; booked; disputes; paid back; and five numbers -/
def wR (G : wy_G) (La : List Nat) (fa : Nat → va_E) (ad av ao af ag : Nat) (d v o fr g : Nat → Int32) : Prop :=
  wy_c La fa ad (.inl (G.2 0, 60, .inl d)) ∧ wy_c La fa av (.inl (G.2 0, 20, .inl v)) ∧ wy_c La fa ao (.inl (G.2 0, 20, .inl o)) ∧ wy_c La fa af (.inl (G.2 0, 10, .inl fr)) ∧ wy_c La fa ag (.inl (G.2 0, 5, .inl g)) ∧
  (ad ≠ av ∧ ad ≠ ao ∧ ad ≠ af ∧ ad ≠ ag ∧ av ≠ ao ∧ av ≠ af ∧ av ≠ ag ∧ ao ≠ af ∧ ao ≠ ag ∧ af ≠ ag)
set_option maxHeartbeats 4000000 in
set_option maxRecDepth 100000 in
theorem m_L_areRides (l : Launch) (hnt : l.stackTraces = false) {G : wy_G} {L0 La : List Nat} {f0 fa : Nat → va_E} {sz : Nat} {ox lo : Nat} {ra ar : Nat → Nat} {t n : Nat} {km mn : Int32} {wk : Nat} {po : Nat → Int32} {rr : Nat → wr_V} {ad av ao af ag : Nat} {d v o fr g : Nat → Int32} (hq : wx_S G L0 f0 ox lo ra ar n km mn wk po rr) (hR : wR G La fa ad av ao af ag d v o fr g) (hJ : wJ t n km mn wk po rr) (hB : wB n km mn wk rr d v o fr g) (ht : t ≤ 80) : Met l yL_areRides wsL_areRides ({ frames := 9, cells := 4, slots := 24, locals := 150 } : Room) (va_Pc [.ref ox, .ref ad, .ref av, .ref ag] (wq_P G L0 f0 La fa sz)) (wq_Q G L0 La sz (fun r1 L1 f1 fa1 => r1 = .int (bI true) ∧ fa1 = fa ∧ ∃ ra ar, wx_S G L1 f1 ox lo ra ar n km mn wk po rr)) 4 24 (wy_A (L0 ++ La) sz) := by
  refine Met.ofW (cc := cL_areRides) (maxL := 9) (ret := (some .boolean)) (by decide) rfl ?_
  intro p e s m args below meth c s₁ B hml hv
  obtain ⟨rfl, hP⟩ := hv
  obtain ⟨hw, hK, hA⟩ := wq_start hP
  obtain ⟨hv, -, -, hE, hZ, hN⟩ := hP
  have hsz := hv.1
  subst hsz
  have hx := B.exec
  have hb := B.bytes
  have hr := B.returns
  have hts := atoms_spec (ws := wsL_areRides) B.pre
  have hown : s.vm.findClass RL = some m.cls := findClass_of_methodNamed B.named
  have hlocks := B.notSynchronized
  have hn20 : n ≤ 20 := hJ.2.1
  have hwk20 : wk ≤ 20 := hJ.2.2.1
  have hne := hR.2.2.2.2.2
  have hl := lv_entry ([.ref ox, .ref ad, .ref av, .ref ag]) (n := 9) (Nat.le_of_ble_eq_true rfl)
  rw [lg_entry_eq]
  generalize (lg_sl ([.ref ox, .ref ad, .ref av, .ref ag]) ++ List.replicate (9 - (lg_sl ([.ref ox, .ref ad, .ref av, .ref ag])).length) Slot.unset).toArray = ls at hl ⊢
  have hl : lv_has ls 9 [(0, .ref ox), (1, .ref ad), (2, .ref av), (3, .ref ag)] := hl
  refine lv_aload_n hx hb dL_areRides_0 rfl (lv_at hl 0 rfl) ?_
  refine lv_iconst (v := 0) hx hb dL_areRides_1 (by decide) ?_
  refine lv_aload_n hx hb dL_areRides_2 rfl (lv_at hl 3 rfl) ?_
  refine lv_iconst (v := 0) hx hb dL_areRides_3 (by decide) ?_
  refine wy_iald hx hb hK hw.2.1.1 hR.2.2.2.2.1 (0) (rfl : (0 : Int32) = nI 0) (by omega) (by omega) dL_areRides_4 ?_
  refine lv_iconst (v := 0) hx hb dL_areRides_5 (by decide) ?_
  have hC_1 : okC n (g 0) = 1 := by rw [hB.2.2.2.2.2.2.1]; exact okC_out (Nat.le_refl _) (by omega)
  refine wq_call0 (vx_runSX (As := [.ref ox, .int 0, .int (g 0), .int 0]) (rest := []) ⟨hx, hb, hml, hown, hts⟩ (m_L_asks_aboard l hnt (fa := fa) hq (g 0) (0) (by rw [hC_1]; decide)) (vx_cwSW 4 hts gL_areRides_L_asks rfl rfl rfl (by decide +kernel) ⟨Nat.le_of_ble_eq_true rfl, Nat.le_of_ble_eq_true rfl⟩) (wq_pre0 hK hE hZ hN hw hA) rfl rfl hl.1 rfl (lv_room (Nat.le_of_ble_eq_true rfl)) dL_areRides_6 ⟨(show 0 + 1 ≤ 4 by omega), (show 0 + 6 ≤ 24 by omega)⟩) hw hA (fun r_1 L_1 f_1 fx_1 H locs hp hw => ?_)
  obtain ⟨er, eL, ef⟩ := hp
  replace hq := wx_tr hq eL ef
  have er : r_1 = .int (-1000000030) := er.trans (congrArg Value.int (by rw [hC_1]; decide))
  subst er
  refine lv_ldc (v := (-1000000030)) hx hb hown (hts (.constant RL 92 ((-1000000030))) (by decide +kernel)) dL_areRides_9 ?_
  refine lv_icmp_ne (tgt := 44) hx hb dL_areRides_11 (by decide) (fun z => absurd z (by decide)) (fun _ => ?_)
  refine lv_aload_n hx hb dL_areRides_14 rfl (lv_at hl 0 rfl) ?_
  refine lv_iconst (v := 2) hx hb dL_areRides_15 (by decide) ?_
  refine lv_iconst (v := (-1)) hx hb dL_areRides_16 (by decide) ?_
  refine lv_iconst (v := 0) hx hb dL_areRides_17 (by decide) ?_
  have hC_2 : okC n (-1) = 1 := okC_m1 n
  refine wq_call0 (vx_runSX (As := [.ref ox, .int 2, .int (-1), .int 0]) (rest := []) ⟨hx, hb, hml, hown, hts⟩ (m_L_asks_isVoid l hnt (fa := fa) hq ((-1)) (0) (by rw [hC_2]; decide)) (vx_cwSW 4 hts gL_areRides_L_asks rfl rfl rfl (by decide +kernel) ⟨Nat.le_of_ble_eq_true rfl, Nat.le_of_ble_eq_true rfl⟩) (wq_pre0 hK hE hZ hN hw hA) rfl rfl hl.1 rfl (lv_room (Nat.le_of_ble_eq_true rfl)) dL_areRides_18 ⟨(show 0 + 1 + 1 ≤ 4 by omega), (show 0 + 6 + 6 ≤ 24 by omega)⟩) hw hA (fun r_2 L_2 f_2 fx_2 H locs hp hw => ?_)
  obtain ⟨er, eL, ef⟩ := hp
  replace hq := wx_tr hq eL ef
  have er : r_2 = .int (-1000000030) := er.trans (congrArg Value.int (by rw [hC_2]; decide))
  subst er
  refine lv_ldc (v := (-1000000030)) hx hb hown (hts (.constant RL 92 ((-1000000030))) (by decide +kernel)) dL_areRides_21 ?_
  refine lv_icmp_ne (tgt := 44) hx hb dL_areRides_23 (by decide) (fun z => absurd z (by decide)) (fun _ => ?_)
  refine lv_aload_n hx hb dL_areRides_26 rfl (lv_at hl 0 rfl) ?_
  refine lv_iconst (v := 1) hx hb dL_areRides_27 (by decide) ?_
  refine lv_aload_n hx hb dL_areRides_28 rfl (lv_at hl 3 rfl) ?_
  refine lv_iconst (v := 0) hx hb dL_areRides_29 (by decide) ?_
  refine wy_iald hx hb hK hw.2.1.1 hR.2.2.2.2.1 (0) (rfl : (0 : Int32) = nI 0) (by omega) (by omega) dL_areRides_30 ?_
  refine lv_iconst (v := 0) hx hb dL_areRides_31 (by decide) ?_
  have hC_3 : ok2C n (g 0) 0 = 1 := by rw [hB.2.2.2.2.2.2.1]; exact ok2C_out _ (Nat.le_refl _) (by omega)
  refine wq_call0 (vx_runSX (As := [.ref ox, .int 1, .int (g 0), .int 0]) (rest := []) ⟨hx, hb, hml, hown, hts⟩ (m_L_asks_charge l hnt (fa := fa) hq (g 0) (0) (by rw [hC_3]; decide)) (vx_cwSW 4 hts gL_areRides_L_asks rfl rfl rfl (by decide +kernel) ⟨Nat.le_of_ble_eq_true rfl, Nat.le_of_ble_eq_true rfl⟩) (wq_pre0 hK hE hZ hN hw hA) rfl rfl hl.1 rfl (lv_room (Nat.le_of_ble_eq_true rfl)) dL_areRides_32 ⟨(show 0 + 1 + 1 + 2 ≤ 4 by omega), (show 0 + 6 + 6 + 12 ≤ 24 by omega)⟩) hw hA (fun r_3 L_3 f_3 fx_3 H locs hp hw => ?_)
  obtain ⟨er, eL, ef⟩ := hp
  replace hq := wx_tr hq eL ef
  have er : r_3 = .int (-1000000030) := er.trans (congrArg Value.int (by rw [hC_3]; decide))
  subst er
  refine lv_ldc (v := (-1000000030)) hx hb hown (hts (.constant RL 92 ((-1000000030))) (by decide +kernel)) dL_areRides_35 ?_
  refine lv_icmp_ne (tgt := 44) hx hb dL_areRides_37 (by decide) (fun z => absurd z (by decide)) (fun _ => ?_)
  refine lv_iconst (v := 1) hx hb dL_areRides_40 (by decide) ?_
  refine lv_goto (tgt := 45) hx hb dL_areRides_41 (by decide) ?_
  refine lv_istore (lv' := [(4, .int 1), (0, .ref ox), (1, .ref ad), (2, .ref av), (3, .ref ag)]) hx hb dL_areRides_45 hl (by decide) rfl (fun ls hl => ?_)
  refine lv_iconst (v := 0) hx hb dL_areRides_47 (by decide) ?_
  refine lv_istore (lv' := [(5, .int 0), (4, .int 1), (0, .ref ox), (1, .ref ad), (2, .ref av), (3, .ref ag)]) hx hb dL_areRides_48 hl (by decide) rfl (fun ls hl => ?_)
  have KK_k : ∀ (dk k : Nat), k + dk = n → ∀ (xi_k : Int32), xi_k = nI (k) → ∀ ls : Array Slot, lv_has ls 9 [(5, .int xi_k), (4, .int 1), (0, .ref ox), (1, .ref ad), (2, .ref av), (3, .ref ag)] → W p l e (headSpec wsL_areRides ({ frames := 9, cells := 4, slots := 24, locals := 150 } : Room)).room s m ([.ref ox, .ref ad, .ref av, .ref ag] : List Value).toArray below meth c H locs (0 + 1 + 1 + 2) (0 + 6 + 6 + 12) (MQ below (wq_Q G L0 La s.heap.size (fun r1 L1 f1 fa1 => r1 = .int (bI true) ∧ fa1 = fa ∧ ∃ ra ar, wx_S G L1 f1 ox lo ra ar n km mn wk po rr)) ([.ref ox, .ref ad, .ref av, .ref ag] : List Value).toArray s 4 24 (wy_A (L0 ++ La) s.heap.size)) (F0 m 50 ls []) := by
    intro dk
    induction dk with
    | zero =>
      intro k hd_k xi_k ei_k ls hl
      refine lv_iload hx hb dL_areRides_50 (lv_at hl 0 rfl) ?_
      refine lv_aload_n hx hb dL_areRides_52 rfl (lv_at hl 5 rfl) ?_
      refine lv_iconst (v := 0) hx hb dL_areRides_53 (by decide) ?_
      refine wy_iald hx hb hK hw.2.1.1 hR.2.2.2.2.1 (0) (rfl : (0 : Int32) = nI 0) (by omega) (by omega) dL_areRides_54 ?_
      refine lv_icmp_ge (tgt := 200) hx hb dL_areRides_55 (by decide) (fun c_4 => ?_) (fun c_4 => ?_)
      · have nc_4 : n ≤ k := (wy_ge ei_k hB.2.2.2.2.2.2.1 (by omega) (by omega)).mp c_4
        obtain rfl : n = k := by omega
        refine lv_iload hx hb dL_areRides_200 (lv_at hl 1 rfl) ?_
        exact wq_zret (b := true) rfl hx hb hr hlocks dL_areRides_202 hw (show 0 + 1 + 1 + 2 ≤ 4 by omega) (show 0 + 6 + 6 + 12 ≤ 24 by omega) ⟨rfl, rfl, ra, ar, hq⟩
      · have nc_4 : ¬ (n ≤ k) := fun z => c_4 ((wy_ge ei_k hB.2.2.2.2.2.2.1 (by omega) (by omega)).mpr z)
        exact absurd nc_4 (by omega)
    | succ dk ih_dk =>
      intro k hd_k xi_k ei_k ls hl
      refine lv_iload hx hb dL_areRides_50 (lv_at hl 0 rfl) ?_
      refine lv_aload_n hx hb dL_areRides_52 rfl (lv_at hl 5 rfl) ?_
      refine lv_iconst (v := 0) hx hb dL_areRides_53 (by decide) ?_
      refine wy_iald hx hb hK hw.2.1.1 hR.2.2.2.2.1 (0) (rfl : (0 : Int32) = nI 0) (by omega) (by omega) dL_areRides_54 ?_
      refine lv_icmp_ge (tgt := 200) hx hb dL_areRides_55 (by decide) (fun c_5 => ?_) (fun c_5 => ?_)
      · have nc_5 : n ≤ k := (wy_ge ei_k hB.2.2.2.2.2.2.1 (by omega) (by omega)).mp c_5
        exact absurd nc_5 (by omega)
      · have nc_5 : ¬ (n ≤ k) := fun z => c_5 ((wy_ge ei_k hB.2.2.2.2.2.2.1 (by omega) (by omega)).mpr z)
        refine lv_iload hx hb dL_areRides_58 (lv_at hl 1 rfl) ?_
        refine lv_if_eq (tgt := 200) hx hb dL_areRides_60 (by decide) (fun z => absurd z (by decide)) (fun _ => ?_)
        refine lv_aload_n hx hb dL_areRides_63 rfl (lv_at hl 2 rfl) ?_
        refine lv_iload hx hb dL_areRides_64 (lv_at hl 0 rfl) ?_
        refine vp_callSi (W.runV (As := [.int xi_k]) (rest := []) ⟨hx, hb, hml, hown, hts⟩ (r_X1_aboard l hq (xi_k) (k) (by omega) ei_k) (cwV 1 hts gL_areRides_X1_aboard rfl rfl rfl (by decide +kernel) ⟨Nat.le_of_ble_eq_true rfl, Nat.le_of_ble_eq_true rfl⟩) (wy_pVR hK hw.1.1 hq.1 rfl) rfl rfl hl.1 rfl (lv_room (Nat.le_of_ble_eq_true rfl)) dL_areRides_66 ⟨(show 0 + 1 + 1 + 2 + 0 ≤ 4 by omega), (show 0 + 6 + 6 + 12 + 0 ≤ 24 by omega)⟩) (fun r_6 er_6 => ?_)
        subst er_6
        refine lv_istore (lv' := [(6, .int (mks (rsd (rr k)))), (5, .int xi_k), (4, .int 1), (0, .ref ox), (1, .ref ad), (2, .ref av), (3, .ref ag)]) hx hb dL_areRides_69 hl (by decide) rfl (fun ls hl => ?_)
        refine lv_aload_n hx hb dL_areRides_71 rfl (lv_at hl 4 rfl) ?_
        refine lv_bipush (v := 20) hx hb dL_areRides_72 (by decide) ?_
        refine lv_iload hx hb dL_areRides_74 (lv_at hl 1 rfl) ?_
        refine lv_iadd hx hb dL_areRides_76 ?_
        refine lv_topi (fun x_7 ex_7 => ?_)
        have nx_7 : x_7 = nI (20 + k) := ex_7.trans ((congr (congrArg (fun u v : Int32 => u + v) (rfl : (20 : Int32) = nI 20)) ei_k).trans (nI_add _ _))
        refine wy_iald hx hb hK hw.2.1.1 hR.1 (20 + k) nx_7 (by omega) (by omega) dL_areRides_77 ?_
        refine lv_iconst (v := 1) hx hb dL_areRides_78 (by decide) ?_
        refine lv_icmp_ne (tgt := 86) hx hb dL_areRides_79 (by decide) (fun c_8 => ?_) (fun c_8 => ?_)
        · have bc_8 : (rfi (rr k)) = false := bI_n1 (fun z => c_8 ((hB.2.1 (k) (by omega)).trans z))
          refine lv_iconst (v := 0) hx hb dL_areRides_86 (by decide) ?_
          refine lv_istore (lv' := [(7, .int 0), (6, .int (mks (rsd (rr k)))), (5, .int xi_k), (4, .int 1), (0, .ref ox), (1, .ref ad), (2, .ref av), (3, .ref ag)]) hx hb dL_areRides_87 hl (by decide) rfl (fun ls hl => ?_)
          refine lv_iload hx hb dL_areRides_89 (lv_at hl 1 rfl) ?_
          refine lv_aload_n hx hb dL_areRides_91 rfl (lv_at hl 6 rfl) ?_
          refine lv_iload hx hb dL_areRides_92 (lv_at hl 2 rfl) ?_
          refine wy_iald hx hb hK hw.2.1.1 hR.2.1 (k) ei_k (by omega) (by omega) dL_areRides_94 ?_
          refine lv_iand hx hb dL_areRides_95 ?_
          refine lv_topi (fun x_9 ex_9 => ?_)
          refine lv_if_ne (tgt := 152) hx hb dL_areRides_96 (by decide) (fun z => absurd (ex_9.trans (P_and hJ hB (k := k) (by omega))) z) (fun _ => ?_)
          refine lv_iload hx hb dL_areRides_99 (lv_at hl 1 rfl) ?_
          refine vp_callSi (W.runS (As := [.int (mks (rsd (rr k)))]) (rest := []) ⟨hx, hb, hml, hown, hts⟩ (m_L_bits l (fun i => decide (i < 10) && rsd (rr k) i) (mks (rsd (rr k))) (fun i hi => mks_bt _ (by omega))) (va_cwS 1 hts gL_areRides_L_bits rfl rfl rfl (by decide +kernel) ⟨Nat.le_of_ble_eq_true rfl, Nat.le_of_ble_eq_true rfl⟩) wy_pSN rfl rfl hl.1 rfl (lv_room (Nat.le_of_ble_eq_true rfl)) dL_areRides_101 ⟨(show 0 + 1 + 1 + 2 + 0 ≤ 4 by omega), (show 0 + 6 + 6 + 12 + 0 ≤ 24 by omega)⟩) (fun r_10 er_10 => ?_)
          subst er_10
          refine lv_aload_n hx hb dL_areRides_104 rfl (lv_at hl 6 rfl) ?_
          refine lv_iload hx hb dL_areRides_105 (lv_at hl 2 rfl) ?_
          refine wy_iald hx hb hK hw.2.1.1 hR.2.1 (k) ei_k (by omega) (by omega) dL_areRides_107 ?_
          refine vp_callSi (W.runS (As := [.int (v k)]) (rest := [.int (nI (cb (fun i => decide (i < 10) && rsd (rr k) i) 20))]) ⟨hx, hb, hml, hown, hts⟩ (m_L_bits l (fun i => decide (i < 10) && (!rfi (rr k) && rbk (rr k) i)) (v k) (fun i hi => by rw [hB.vk (by omega)]; exact vmk_bt _ (by omega))) (va_cwS 1 hts gL_areRides_L_bits rfl rfl rfl (by decide +kernel) ⟨Nat.le_of_ble_eq_true rfl, Nat.le_of_ble_eq_true rfl⟩) wy_pSN rfl rfl hl.1 rfl (lv_room (Nat.le_of_ble_eq_true rfl)) dL_areRides_108 ⟨(show 0 + 1 + 1 + 2 + 0 ≤ 4 by omega), (show 0 + 6 + 6 + 12 + 0 ≤ 24 by omega)⟩) (fun r_11 er_11 => ?_)
          subst er_11
          refine lv_iadd hx hb dL_areRides_111 ?_
          refine lv_topi (fun x_12 ex_12 => ?_)
          have nx_12 : x_12 = nI (cb (fun i => decide (i < 10) && rsd (rr k) i) 20 + cb (fun i => decide (i < 10) && (!rfi (rr k) && rbk (rr k) i)) 20) := ex_12.trans ((congr (congrArg (fun u v : Int32 => u + v) rfl) rfl).trans (nI_add _ _))
          refine lv_iconst (v := 5) hx hb dL_areRides_112 (by decide) ?_
          refine lv_icmp_ge (tgt := 152) hx hb dL_areRides_113 (by decide) (fun z => absurd z (P_5 nx_12 (P_cnt hJ (k := k) (by omega)))) (fun _ => ?_)
          refine lv_iload hx hb dL_areRides_116 (lv_at hl 0 rfl) ?_
          refine lv_if_eq (tgt := 126) hx hb dL_areRides_118 (by decide) (fun _ => ?_) (fun z => absurd z (by decide))
          refine lv_iload hx hb dL_areRides_126 (lv_at hl 0 rfl) ?_
          refine lv_if_ne (tgt := 140) hx hb dL_areRides_128 (by decide) (fun z => absurd z (by decide)) (fun _ => ?_)
          refine lv_aload_n hx hb dL_areRides_131 rfl (lv_at hl 4 rfl) ?_
          refine lv_iload hx hb dL_areRides_132 (lv_at hl 2 rfl) ?_
          refine vp_callSi (W.runV (As := [.int xi_k]) (rest := []) ⟨hx, hb, hml, hown, hts⟩ (r_X1_isVoid l hq (xi_k) (k) (by omega) ei_k) (cwV 1 hts gL_areRides_X1_isVoid rfl rfl rfl (by decide +kernel) ⟨Nat.le_of_ble_eq_true rfl, Nat.le_of_ble_eq_true rfl⟩) (wy_pVR hK hw.1.1 hq.1 rfl) rfl rfl hl.1 rfl (lv_room (Nat.le_of_ble_eq_true rfl)) dL_areRides_134 ⟨(show 0 + 1 + 1 + 2 + 0 ≤ 4 by omega), (show 0 + 6 + 6 + 12 + 0 ≤ 24 by omega)⟩) (fun r_13 er_13 => ?_)
          subst er_13
          refine lv_if_ne (tgt := 152) hx hb dL_areRides_137 (by decide) (fun z => absurd (P_nov bc_8) z) (fun _ => ?_)
          refine lv_iload hx hb dL_areRides_140 (lv_at hl 1 rfl) ?_
          refine lv_sipush (v := 1024) hx hb dL_areRides_142 (by decide) ?_
          refine lv_icmp_ge (tgt := 152) hx hb dL_areRides_145 (by decide) (fun z => absurd z (mks_small _)) (fun _ => ?_)
          refine lv_iconst (v := 1) hx hb dL_areRides_148 (by decide) ?_
          refine lv_goto (tgt := 153) hx hb dL_areRides_149 (by decide) ?_
          refine lv_istore (lv' := [(4, .int 1), (7, .int 0), (6, .int (mks (rsd (rr k)))), (5, .int xi_k), (0, .ref ox), (1, .ref ad), (2, .ref av), (3, .ref ag)]) hx hb dL_areRides_153 hl (by decide) rfl (fun ls hl => ?_)
          refine lv_iconst (v := 0) hx hb dL_areRides_155 (by decide) ?_
          refine lv_istore (lv' := [(8, .int 0), (4, .int 1), (7, .int 0), (6, .int (mks (rsd (rr k)))), (5, .int xi_k), (0, .ref ox), (1, .ref ad), (2, .ref av), (3, .ref ag)]) hx hb dL_areRides_156 hl (by decide) rfl (fun ls hl => ?_)
          have KK_j : ∀ (dj j : Nat), j + dj = 10 → ∀ (xi_j : Int32), xi_j = nI (j) → ∀ ls : Array Slot, lv_has ls 9 [(8, .int xi_j), (4, .int 1), (7, .int 0), (6, .int (mks (rsd (rr k)))), (5, .int xi_k), (0, .ref ox), (1, .ref ad), (2, .ref av), (3, .ref ag)] → W p l e (headSpec wsL_areRides ({ frames := 9, cells := 4, slots := 24, locals := 150 } : Room)).room s m ([.ref ox, .ref ad, .ref av, .ref ag] : List Value).toArray below meth c H locs (0 + 1 + 1 + 2) (0 + 6 + 6 + 12) (MQ below (wq_Q G L0 La s.heap.size (fun r1 L1 f1 fa1 => r1 = .int (bI true) ∧ fa1 = fa ∧ ∃ ra ar, wx_S G L1 f1 ox lo ra ar n km mn wk po rr)) ([.ref ox, .ref ad, .ref av, .ref ag] : List Value).toArray s 4 24 (wy_A (L0 ++ La) s.heap.size)) (F0 m 158 ls []) := by
            intro dj
            induction dj with
            | zero =>
              intro j hd_j xi_j ei_j ls hl
              refine lv_iload hx hb dL_areRides_158 (lv_at hl 0 rfl) ?_
              refine lv_bipush (v := 10) hx hb dL_areRides_160 (by decide) ?_
              refine lv_icmp_ge (tgt := 194) hx hb dL_areRides_162 (by decide) (fun c_14 => ?_) (fun c_14 => ?_)
              · have nc_14 : 10 ≤ j := (wy_ge ei_j (rfl : (10 : Int32) = nI 10) (by omega) (by decide)).mp c_14
                obtain rfl : 10 = j := by omega
                obtain ⟨x_15, ex_15⟩ : ∃ y : Int32, y = xi_k + 1 := ⟨_, rfl⟩
                have nx_15 : x_15 = nI (k + 1) := by rw [ex_15, ei_k, nI_1]
                refine lv_iinc (v := x_15) (lv' := [(5, .int x_15), (8, .int xi_j), (4, .int 1), (7, .int 0), (6, .int (mks (rsd (rr k)))), (0, .ref ox), (1, .ref ad), (2, .ref av), (3, .ref ag)]) hx hb dL_areRides_194 hl (k := 4) rfl (by rw [ex_15]; rfl) (by decide) rfl (fun ls hl => ?_)
                refine lv_goto (tgt := 50) hx hb dL_areRides_197 (by decide) ?_
                exact ih_dk (k + 1) (by omega) _ nx_15 ls (lv_sub hl [0, 2, 5, 6, 7, 8] rfl)
              · have nc_14 : ¬ (10 ≤ j) := fun z => c_14 ((wy_ge ei_j (rfl : (10 : Int32) = nI 10) (by omega) (by decide)).mpr z)
                exact absurd nc_14 (by omega)
            | succ dj ih_dj =>
              intro j hd_j xi_j ei_j ls hl
              refine lv_iload hx hb dL_areRides_158 (lv_at hl 0 rfl) ?_
              refine lv_bipush (v := 10) hx hb dL_areRides_160 (by decide) ?_
              refine lv_icmp_ge (tgt := 194) hx hb dL_areRides_162 (by decide) (fun c_16 => ?_) (fun c_16 => ?_)
              · have nc_16 : 10 ≤ j := (wy_ge ei_j (rfl : (10 : Int32) = nI 10) (by omega) (by decide)).mp c_16
                exact absurd nc_16 (by omega)
              · have nc_16 : ¬ (10 ≤ j) := fun z => c_16 ((wy_ge ei_j (rfl : (10 : Int32) = nI 10) (by omega) (by decide)).mpr z)
                refine lv_iload hx hb dL_areRides_165 (lv_at hl 1 rfl) ?_
                refine lv_if_eq (tgt := 194) hx hb dL_areRides_167 (by decide) (fun z => absurd z (by decide)) (fun _ => ?_)
                refine lv_aload_n hx hb dL_areRides_170 rfl (lv_at hl 5 rfl) ?_
                refine lv_iload hx hb dL_areRides_171 (lv_at hl 4 rfl) ?_
                refine lv_iload hx hb dL_areRides_173 (lv_at hl 0 rfl) ?_
                refine vp_callSi (W.runV (As := [.int xi_k, .int xi_j]) (rest := []) ⟨hx, hb, hml, hown, hts⟩ (r_X1_charge l hq (xi_k) (xi_j) (k) (j) (by omega) (by omega) ei_k ei_j) (cwV 2 hts gL_areRides_X1_charge rfl rfl rfl (by decide +kernel) ⟨Nat.le_of_ble_eq_true rfl, Nat.le_of_ble_eq_true rfl⟩) (wy_pVR hK hw.1.1 hq.1 rfl) rfl rfl hl.1 rfl (lv_room (Nat.le_of_ble_eq_true rfl)) dL_areRides_175 ⟨(show 0 + 1 + 1 + 2 + 0 ≤ 4 by omega), (show 0 + 6 + 6 + 12 + 0 ≤ 24 by omega)⟩) (fun r_17 er_17 => ?_)
                subst er_17
                refine lv_if_lt (tgt := 185) hx hb dL_areRides_178 (by decide) (fun z => absurd z (P_ch0 hJ ht (k := k) (r := j) (by omega) (by omega))) (fun _ => ?_)
                refine lv_iconst (v := 1) hx hb dL_areRides_181 (by decide) ?_
                refine lv_goto (tgt := 186) hx hb dL_areRides_182 (by decide) ?_
                refine lv_istore (lv' := [(4, .int 1), (8, .int xi_j), (7, .int 0), (6, .int (mks (rsd (rr k)))), (5, .int xi_k), (0, .ref ox), (1, .ref ad), (2, .ref av), (3, .ref ag)]) hx hb dL_areRides_186 hl (by decide) rfl (fun ls hl => ?_)
                obtain ⟨x_18, ex_18⟩ : ∃ y : Int32, y = xi_j + 1 := ⟨_, rfl⟩
                have nx_18 : x_18 = nI (j + 1) := by rw [ex_18, ei_j, nI_1]
                refine lv_iinc (v := x_18) (lv' := [(8, .int x_18), (4, .int 1), (7, .int 0), (6, .int (mks (rsd (rr k)))), (5, .int xi_k), (0, .ref ox), (1, .ref ad), (2, .ref av), (3, .ref ag)]) hx hb dL_areRides_188 hl (k := 1) rfl (by rw [ex_18]; rfl) (by decide) rfl (fun ls hl => ?_)
                refine lv_goto (tgt := 158) hx hb dL_areRides_191 (by decide) ?_
                exact ih_dj (j + 1) (by omega) _ nx_18 ls (lv_sub hl [0, 1, 2, 3, 4, 5, 6, 7, 8] rfl)
          exact KK_j (10) 0 (by omega) _ rfl ls (lv_sub hl [0, 1, 2, 3, 4, 5, 6, 7, 8] rfl)
        · have bc_8 : (rfi (rr k)) = true := bI_e1 ((hB.2.1 (k) (by omega)).symm.trans c_8)
          refine lv_iconst (v := 1) hx hb dL_areRides_82 (by decide) ?_
          refine lv_goto (tgt := 87) hx hb dL_areRides_83 (by decide) ?_
          refine lv_istore (lv' := [(7, .int 1), (6, .int (mks (rsd (rr k)))), (5, .int xi_k), (4, .int 1), (0, .ref ox), (1, .ref ad), (2, .ref av), (3, .ref ag)]) hx hb dL_areRides_87 hl (by decide) rfl (fun ls hl => ?_)
          refine lv_iload hx hb dL_areRides_89 (lv_at hl 1 rfl) ?_
          refine lv_aload_n hx hb dL_areRides_91 rfl (lv_at hl 6 rfl) ?_
          refine lv_iload hx hb dL_areRides_92 (lv_at hl 2 rfl) ?_
          refine wy_iald hx hb hK hw.2.1.1 hR.2.1 (k) ei_k (by omega) (by omega) dL_areRides_94 ?_
          refine lv_iand hx hb dL_areRides_95 ?_
          refine lv_topi (fun x_19 ex_19 => ?_)
          refine lv_if_ne (tgt := 152) hx hb dL_areRides_96 (by decide) (fun z => absurd (ex_19.trans (P_and hJ hB (k := k) (by omega))) z) (fun _ => ?_)
          refine lv_iload hx hb dL_areRides_99 (lv_at hl 1 rfl) ?_
          refine vp_callSi (W.runS (As := [.int (mks (rsd (rr k)))]) (rest := []) ⟨hx, hb, hml, hown, hts⟩ (m_L_bits l (fun i => decide (i < 10) && rsd (rr k) i) (mks (rsd (rr k))) (fun i hi => mks_bt _ (by omega))) (va_cwS 1 hts gL_areRides_L_bits rfl rfl rfl (by decide +kernel) ⟨Nat.le_of_ble_eq_true rfl, Nat.le_of_ble_eq_true rfl⟩) wy_pSN rfl rfl hl.1 rfl (lv_room (Nat.le_of_ble_eq_true rfl)) dL_areRides_101 ⟨(show 0 + 1 + 1 + 2 + 0 ≤ 4 by omega), (show 0 + 6 + 6 + 12 + 0 ≤ 24 by omega)⟩) (fun r_20 er_20 => ?_)
          subst er_20
          refine lv_aload_n hx hb dL_areRides_104 rfl (lv_at hl 6 rfl) ?_
          refine lv_iload hx hb dL_areRides_105 (lv_at hl 2 rfl) ?_
          refine wy_iald hx hb hK hw.2.1.1 hR.2.1 (k) ei_k (by omega) (by omega) dL_areRides_107 ?_
          refine vp_callSi (W.runS (As := [.int (v k)]) (rest := [.int (nI (cb (fun i => decide (i < 10) && rsd (rr k) i) 20))]) ⟨hx, hb, hml, hown, hts⟩ (m_L_bits l (fun i => decide (i < 10) && (!rfi (rr k) && rbk (rr k) i)) (v k) (fun i hi => by rw [hB.vk (by omega)]; exact vmk_bt _ (by omega))) (va_cwS 1 hts gL_areRides_L_bits rfl rfl rfl (by decide +kernel) ⟨Nat.le_of_ble_eq_true rfl, Nat.le_of_ble_eq_true rfl⟩) wy_pSN rfl rfl hl.1 rfl (lv_room (Nat.le_of_ble_eq_true rfl)) dL_areRides_108 ⟨(show 0 + 1 + 1 + 2 + 0 ≤ 4 by omega), (show 0 + 6 + 6 + 12 + 0 ≤ 24 by omega)⟩) (fun r_21 er_21 => ?_)
          subst er_21
          refine lv_iadd hx hb dL_areRides_111 ?_
          refine lv_topi (fun x_22 ex_22 => ?_)
          have nx_22 : x_22 = nI (cb (fun i => decide (i < 10) && rsd (rr k) i) 20 + cb (fun i => decide (i < 10) && (!rfi (rr k) && rbk (rr k) i)) 20) := ex_22.trans ((congr (congrArg (fun u v : Int32 => u + v) rfl) rfl).trans (nI_add _ _))
          refine lv_iconst (v := 5) hx hb dL_areRides_112 (by decide) ?_
          refine lv_icmp_ge (tgt := 152) hx hb dL_areRides_113 (by decide) (fun z => absurd z (P_5 nx_22 (P_cnt hJ (k := k) (by omega)))) (fun _ => ?_)
          refine lv_iload hx hb dL_areRides_116 (lv_at hl 0 rfl) ?_
          refine lv_if_eq (tgt := 126) hx hb dL_areRides_118 (by decide) (fun z => absurd z (by decide)) (fun _ => ?_)
          refine lv_iload hx hb dL_areRides_121 (lv_at hl 1 rfl) ?_
          refine lv_if_ne (tgt := 152) hx hb dL_areRides_123 (by decide) (fun z => absurd ((P_sdz hJ (k := k) (by omega) bc_8).2.1) z) (fun _ => ?_)
          refine lv_iload hx hb dL_areRides_126 (lv_at hl 0 rfl) ?_
          refine lv_if_ne (tgt := 140) hx hb dL_areRides_128 (by decide) (fun _ => ?_) (fun z => absurd z (by decide))
          refine lv_iload hx hb dL_areRides_140 (lv_at hl 1 rfl) ?_
          refine lv_sipush (v := 1024) hx hb dL_areRides_142 (by decide) ?_
          refine lv_icmp_ge (tgt := 152) hx hb dL_areRides_145 (by decide) (fun z => absurd z (mks_small _)) (fun _ => ?_)
          refine lv_iconst (v := 1) hx hb dL_areRides_148 (by decide) ?_
          refine lv_goto (tgt := 153) hx hb dL_areRides_149 (by decide) ?_
          refine lv_istore (lv' := [(4, .int 1), (7, .int 1), (6, .int (mks (rsd (rr k)))), (5, .int xi_k), (0, .ref ox), (1, .ref ad), (2, .ref av), (3, .ref ag)]) hx hb dL_areRides_153 hl (by decide) rfl (fun ls hl => ?_)
          refine lv_iconst (v := 0) hx hb dL_areRides_155 (by decide) ?_
          refine lv_istore (lv' := [(8, .int 0), (4, .int 1), (7, .int 1), (6, .int (mks (rsd (rr k)))), (5, .int xi_k), (0, .ref ox), (1, .ref ad), (2, .ref av), (3, .ref ag)]) hx hb dL_areRides_156 hl (by decide) rfl (fun ls hl => ?_)
          have KK_j : ∀ (dj j : Nat), j + dj = 10 → ∀ (xi_j : Int32), xi_j = nI (j) → ∀ ls : Array Slot, lv_has ls 9 [(8, .int xi_j), (4, .int 1), (7, .int 1), (6, .int (mks (rsd (rr k)))), (5, .int xi_k), (0, .ref ox), (1, .ref ad), (2, .ref av), (3, .ref ag)] → W p l e (headSpec wsL_areRides ({ frames := 9, cells := 4, slots := 24, locals := 150 } : Room)).room s m ([.ref ox, .ref ad, .ref av, .ref ag] : List Value).toArray below meth c H locs (0 + 1 + 1 + 2) (0 + 6 + 6 + 12) (MQ below (wq_Q G L0 La s.heap.size (fun r1 L1 f1 fa1 => r1 = .int (bI true) ∧ fa1 = fa ∧ ∃ ra ar, wx_S G L1 f1 ox lo ra ar n km mn wk po rr)) ([.ref ox, .ref ad, .ref av, .ref ag] : List Value).toArray s 4 24 (wy_A (L0 ++ La) s.heap.size)) (F0 m 158 ls []) := by
            intro dj
            induction dj with
            | zero =>
              intro j hd_j xi_j ei_j ls hl
              refine lv_iload hx hb dL_areRides_158 (lv_at hl 0 rfl) ?_
              refine lv_bipush (v := 10) hx hb dL_areRides_160 (by decide) ?_
              refine lv_icmp_ge (tgt := 194) hx hb dL_areRides_162 (by decide) (fun c_23 => ?_) (fun c_23 => ?_)
              · have nc_23 : 10 ≤ j := (wy_ge ei_j (rfl : (10 : Int32) = nI 10) (by omega) (by decide)).mp c_23
                obtain rfl : 10 = j := by omega
                obtain ⟨x_24, ex_24⟩ : ∃ y : Int32, y = xi_k + 1 := ⟨_, rfl⟩
                have nx_24 : x_24 = nI (k + 1) := by rw [ex_24, ei_k, nI_1]
                refine lv_iinc (v := x_24) (lv' := [(5, .int x_24), (8, .int xi_j), (4, .int 1), (7, .int 1), (6, .int (mks (rsd (rr k)))), (0, .ref ox), (1, .ref ad), (2, .ref av), (3, .ref ag)]) hx hb dL_areRides_194 hl (k := 4) rfl (by rw [ex_24]; rfl) (by decide) rfl (fun ls hl => ?_)
                refine lv_goto (tgt := 50) hx hb dL_areRides_197 (by decide) ?_
                exact ih_dk (k + 1) (by omega) _ nx_24 ls (lv_sub hl [0, 2, 5, 6, 7, 8] rfl)
              · have nc_23 : ¬ (10 ≤ j) := fun z => c_23 ((wy_ge ei_j (rfl : (10 : Int32) = nI 10) (by omega) (by decide)).mpr z)
                exact absurd nc_23 (by omega)
            | succ dj ih_dj =>
              intro j hd_j xi_j ei_j ls hl
              refine lv_iload hx hb dL_areRides_158 (lv_at hl 0 rfl) ?_
              refine lv_bipush (v := 10) hx hb dL_areRides_160 (by decide) ?_
              refine lv_icmp_ge (tgt := 194) hx hb dL_areRides_162 (by decide) (fun c_25 => ?_) (fun c_25 => ?_)
              · have nc_25 : 10 ≤ j := (wy_ge ei_j (rfl : (10 : Int32) = nI 10) (by omega) (by decide)).mp c_25
                exact absurd nc_25 (by omega)
              · have nc_25 : ¬ (10 ≤ j) := fun z => c_25 ((wy_ge ei_j (rfl : (10 : Int32) = nI 10) (by omega) (by decide)).mpr z)
                refine lv_iload hx hb dL_areRides_165 (lv_at hl 1 rfl) ?_
                refine lv_if_eq (tgt := 194) hx hb dL_areRides_167 (by decide) (fun z => absurd z (by decide)) (fun _ => ?_)
                refine lv_aload_n hx hb dL_areRides_170 rfl (lv_at hl 5 rfl) ?_
                refine lv_iload hx hb dL_areRides_171 (lv_at hl 4 rfl) ?_
                refine lv_iload hx hb dL_areRides_173 (lv_at hl 0 rfl) ?_
                refine vp_callSi (W.runV (As := [.int xi_k, .int xi_j]) (rest := []) ⟨hx, hb, hml, hown, hts⟩ (r_X1_charge l hq (xi_k) (xi_j) (k) (j) (by omega) (by omega) ei_k ei_j) (cwV 2 hts gL_areRides_X1_charge rfl rfl rfl (by decide +kernel) ⟨Nat.le_of_ble_eq_true rfl, Nat.le_of_ble_eq_true rfl⟩) (wy_pVR hK hw.1.1 hq.1 rfl) rfl rfl hl.1 rfl (lv_room (Nat.le_of_ble_eq_true rfl)) dL_areRides_175 ⟨(show 0 + 1 + 1 + 2 + 0 ≤ 4 by omega), (show 0 + 6 + 6 + 12 + 0 ≤ 24 by omega)⟩) (fun r_26 er_26 => ?_)
                subst er_26
                refine lv_if_lt (tgt := 185) hx hb dL_areRides_178 (by decide) (fun z => absurd z (P_ch0 hJ ht (k := k) (r := j) (by omega) (by omega))) (fun _ => ?_)
                refine lv_iconst (v := 1) hx hb dL_areRides_181 (by decide) ?_
                refine lv_goto (tgt := 186) hx hb dL_areRides_182 (by decide) ?_
                refine lv_istore (lv' := [(4, .int 1), (8, .int xi_j), (7, .int 1), (6, .int (mks (rsd (rr k)))), (5, .int xi_k), (0, .ref ox), (1, .ref ad), (2, .ref av), (3, .ref ag)]) hx hb dL_areRides_186 hl (by decide) rfl (fun ls hl => ?_)
                obtain ⟨x_27, ex_27⟩ : ∃ y : Int32, y = xi_j + 1 := ⟨_, rfl⟩
                have nx_27 : x_27 = nI (j + 1) := by rw [ex_27, ei_j, nI_1]
                refine lv_iinc (v := x_27) (lv' := [(8, .int x_27), (4, .int 1), (7, .int 1), (6, .int (mks (rsd (rr k)))), (5, .int xi_k), (0, .ref ox), (1, .ref ad), (2, .ref av), (3, .ref ag)]) hx hb dL_areRides_188 hl (k := 1) rfl (by rw [ex_27]; rfl) (by decide) rfl (fun ls hl => ?_)
                refine lv_goto (tgt := 158) hx hb dL_areRides_191 (by decide) ?_
                exact ih_dj (j + 1) (by omega) _ nx_27 ls (lv_sub hl [0, 1, 2, 3, 4, 5, 6, 7, 8] rfl)
          exact KK_j (10) 0 (by omega) _ rfl ls (lv_sub hl [0, 1, 2, 3, 4, 5, 6, 7, 8] rfl)
  exact KK_k (n) 0 (by omega) _ rfl ls (lv_sub hl [0, 1, 2, 3, 4, 5] rfl)
