set_option maxHeartbeats 4000000 in
set_option maxRecDepth 100000 in
theorem m_Jx4a65c_grow_92f84 (l : Launch) {G : wy_G} {L : List Nat} {f : Nat → va_E} {sz : Nat} {lo he n : Nat} {md : Int32} {ra : Nat → Nat} (hq : wy_c L f lo (.inr (0, [.int md, .ref he, .int (nI n)]))) (hf : wl_f G L f he n ra) (hn : n ≤ 40) (hel : ∀ k, k < n → ∃ fs, wy_c L f (ra k) (.inr (1, fs))) (p1 : Int32) (e1 : p1 = nI (n + 1)) : Met l yJx4a65c_grow_92f84 wsJx4a65c_grow_92f84 ({ frames := 3, cells := 1, slots := 60, locals := 84 } : Room) (va_Pc [.ref lo, .int p1] (wl_P G L f sz)) (wy_Q G (wl_g G L f lo n md ra) (wy_A L sz)) 1 60 (wy_A L sz) := by
  refine Met.ofW (cc := cJx4a65c_grow_92f84) (maxL := 4) (ret := (some (.array (.object "java/lang/Object")))) (by decide) rfl ?_
  intro p e s m args below meth c s₁ B hml hv
  obtain ⟨rfl, hv, hE⟩ := hv
  obtain ⟨hw, hK, hA⟩ := wy_start hv
  have hsz := hv.1
  subst hsz
  have hx := B.exec
  have hb := B.bytes
  have hr := B.returns
  have hts := atoms_spec (ws := wsJx4a65c_grow_92f84) B.pre
  have hown : s.vm.findClass RJx4a65c = some m.cls := findClass_of_methodNamed B.named
  have hlocks := B.notSynchronized
  have hinJx4a65c : ∀ w ∈ wsJx4a65c0, w ∈ wsJx4a65c_grow_92f84 := by decide +kernel
  have hl := lv_entry ([.ref lo, .int p1]) (n := 4) (Nat.le_of_ble_eq_true rfl)
  rw [lg_entry_eq]
  generalize (lg_sl ([.ref lo, .int p1]) ++ List.replicate (4 - (lg_sl ([.ref lo, .int p1])).length) Slot.unset).toArray = ls at hl ⊢
  have hl : lv_has ls 4 [(0, .ref lo), (1, .int p1)] := hl
  refine lv_aload_n hx hb dJx4a65c_grow_92f84_0 rfl (lv_at hl 0 rfl) ?_
  refine wy_get (ci := 0) (v := .ref he) (C := RJx4a65c) (T := TJx4a65c) (N := 3) hx hb hts hinJx4a65c hown hK hw.1 hq rfl 1 (by decide) (hts (.fieldLink RJx4a65c 9 "java/util/ArrayList" "elementData" "[Ljava/lang/Object;") (by decide +kernel)) (fun _ h9 => h9) rfl dJx4a65c_grow_92f84_1 ?_
  rcases hf with ⟨hn0, he0⟩ | ⟨g0, ha, hg⟩
  · subst he0
    refine va_tlen hx hb hE.2.1 hw.2.2 (v := 0) rfl dJx4a65c_grow_92f84_4 ?_
    refine lv_istore_n (lv' := [(2, .int 0), (0, .ref lo), (1, .int p1)]) hx hb dJx4a65c_grow_92f84_5 rfl hl (by decide) rfl (fun ls hl => ?_)
    refine lv_iload_n hx hb dJx4a65c_grow_92f84_6 rfl (lv_at hl 0 rfl) ?_
    refine lv_if_gt (tgt := 20) hx hb dJx4a65c_grow_92f84_7 (by decide) (fun c_1 => ?_) (fun c_1 => ?_)
    · exact absurd c_1 (by decide)
    · refine lv_aload_n hx hb dJx4a65c_grow_92f84_10 rfl (lv_at hl 1 rfl) ?_
      refine wy_get (ci := 0) (v := .ref (G.2 5)) (C := RJx4a65c) (T := TJx4a65c) (N := 3) hx hb hts hinJx4a65c hown hK hw.1 hq rfl 1 (by decide) (hts (.fieldLink RJx4a65c 9 "java/util/ArrayList" "elementData" "[Ljava/lang/Object;") (by decide +kernel)) (fun _ h9 => h9) rfl dJx4a65c_grow_92f84_11 ?_
      refine va_gets hx hb hE.1 hw.2.2 hown (hts (.fieldLink RJx4a65c 39 "java/util/ArrayList" "DEFAULTCAPACITY_EMPTY_ELEMENTDATA" "[Ljava/lang/Object;") (by decide +kernel)) (fun _ h9 => h9) dJx4a65c_grow_92f84_14 ?_
      refine lv_acmp_eq (rx := some (G.2 5)) (ry := some (G.2 5)) (tgt := 45) hx hb dJx4a65c_grow_92f84_17 (by decide) (fun c_2 => ?_) (fun c_2 => ?_)
      · refine lv_aload_n hx hb dJx4a65c_grow_92f84_45 rfl (lv_at hl 1 rfl) ?_
        refine lv_bipush (v := 10) hx hb dJx4a65c_grow_92f84_46 (by decide) ?_
        refine lv_iload_n hx hb dJx4a65c_grow_92f84_48 rfl (lv_at hl 2 rfl) ?_
        refine va_mmax hx hb (by rw [hml]; exact hl.1.symm) hown (hts (.methodLink RJx4a65c 79 Lib.Math.max.name) (by decide +kernel)) (hts (.static Lib.Math.max.name) (by decide +kernel)) (hts (.initialized "java/lang/Math") (by decide +kernel)) (hts (.code Lib.Math.max.name Lib.Math.max.code 2 (some .int)) (by decide +kernel)) (Nat.le_of_ble_eq_true rfl) (Nat.le_of_ble_eq_true rfl) (Nat.le_of_ble_eq_true rfl) (Nat.le_of_ble_eq_true rfl) dJx4a65c_grow_92f84_49 ?_
        refine lv_topi (fun x_3 ex_3 => ?_)
        have hz_4 : x_3 = nI (10) := by rw [ex_3, e1, hn0]; exact if_neg (by decide)
        refine wy_newq hx hb hown (hts (.classLink RJx4a65c 7 "java/lang/Object") (by decide +kernel)) hE.2.2.2.2.1 hK hw hA (10) hz_4 (by omega) (Nat.le_of_ble_eq_true rfl) (Nat.le_of_ble_eq_true rfl) dJx4a65c_grow_92f84_52 (fun q0 H fq0 hfr0 hcq0 hnq0 hw => ?_)
        have hc_5 := wy_c.app2 hq hfr0 hnq0
        have ne_lo_0 := wy_c.neq hq hfr0
        refine lv_dup_x1 hx hb dJx4a65c_grow_92f84_55 rfl rfl ?_
        refine wy_put (ci := 0) (v := .ref q0) (ty := .array (.object "java/lang/Object")) (C := RJx4a65c) (T := TJx4a65c) (N := 3) hx hb hts hinJx4a65c tyJx4a65c tyJx4a65c_ok nmJx4a65c hown hK hw hc_5 rfl 1 (by decide) (hts (.fieldLink RJx4a65c 9 "java/util/ArrayList" "elementData" "[Ljava/lang/Object;") (by decide +kernel)) (fun _ h9 => h9) rfl (by decide +kernel) rfl rfl (Nat.le_of_ble_eq_true rfl) dJx4a65c_grow_92f84_56 (fun H locs f_6 hs_7 hn_8 hw => ?_)
        have hc_9 := wy_c.ne2 hcq0 hn_8 ne_lo_0.symm
        have hc_10 : wy_c (L ++ [q0]) f_6 lo (.inr (0, [.int md, .ref q0, .int (nI n)])) := hs_7
        exact wy_aW hx hb hr (Or.inr ⟨_, rfl⟩) hlocks dJx4a65c_grow_92f84_59 hw (Nat.le_of_ble_eq_true rfl) (Nat.le_of_ble_eq_true rfl) ⟨q0, 10, _, rfl, rfl, hfr0, hc_10, hc_9, (by omega), (by decide), fun k hk => absurd hk (by omega), fun z hz hz1 => (hn_8 z hz1).trans (hnq0 z (fun e => hfr0 (e ▸ hz)))⟩
      · exact absurd rfl c_2
  · refine wy_alen hx hb hK hw.1 (t0 := 2) ha rfl dJx4a65c_grow_92f84_4 ?_
    refine lv_istore_n (lv' := [(2, .int (nI n)), (0, .ref lo), (1, .int p1)]) hx hb dJx4a65c_grow_92f84_5 rfl hl (by decide) rfl (fun ls hl => ?_)
    refine lv_iload_n hx hb dJx4a65c_grow_92f84_6 rfl (lv_at hl 0 rfl) ?_
    refine lv_if_gt (tgt := 20) hx hb dJx4a65c_grow_92f84_7 (by decide) (fun c_11 => ?_) (fun c_11 => ?_)
    · refine lv_iload_n hx hb dJx4a65c_grow_92f84_20 rfl (lv_at hl 0 rfl) ?_
      refine lv_iload_n hx hb dJx4a65c_grow_92f84_21 rfl (lv_at hl 2 rfl) ?_
      refine lv_iload_n hx hb dJx4a65c_grow_92f84_22 rfl (lv_at hl 0 rfl) ?_
      refine lv_isub hx hb dJx4a65c_grow_92f84_23 ?_
      refine lv_topi (fun x_12 ex_12 => ?_)
      refine lv_iload_n hx hb dJx4a65c_grow_92f84_24 rfl (lv_at hl 0 rfl) ?_
      refine lv_iconst (v := 1) hx hb dJx4a65c_grow_92f84_25 (by decide) ?_
      refine lv_ishr hx hb dJx4a65c_grow_92f84_26 ?_
      refine lv_topi (fun x_13 ex_13 => ?_)
      refine vp_callSi (W.runS (As := [.int (nI n), .int x_12, .int x_13]) (rest := []) ⟨hx, hb, hml, hown, hts⟩ (m_J8_newLength_cabcc l (nI n) (x_12) (x_13) n hn rfl (by rw [ex_12, e1]; exact (pk_sub (by omega)).trans (by rw [Nat.add_sub_cancel_left])) (ex_13.trans (wl_shr (by omega) rfl rfl))) (va_cwS 3 hts gJx4a65c_grow_92f84_J8_newLength_cabcc rfl rfl rfl (by decide +kernel) ⟨Nat.le_of_ble_eq_true rfl, Nat.le_of_ble_eq_true rfl⟩) (wy_pSN) rfl rfl hl.1 rfl (lv_room (Nat.le_of_ble_eq_true rfl)) dJx4a65c_grow_92f84_27 ⟨Nat.le_of_ble_eq_true rfl, Nat.le_of_ble_eq_true rfl⟩) (fun r_14 er_14 => ?_)
      refine lv_istore_n (lv' := [(3, .int r_14), (2, .int (nI n)), (0, .ref lo), (1, .int p1)]) hx hb dJx4a65c_grow_92f84_30 rfl hl (by decide) rfl (fun ls hl => ?_)
      refine lv_aload_n hx hb dJx4a65c_grow_92f84_31 rfl (lv_at hl 2 rfl) ?_
      refine lv_aload_n hx hb dJx4a65c_grow_92f84_32 rfl (lv_at hl 2 rfl) ?_
      refine wy_get (ci := 0) (v := .ref he) (C := RJx4a65c) (T := TJx4a65c) (N := 3) hx hb hts hinJx4a65c hown hK hw.1 hq rfl 1 (by decide) (hts (.fieldLink RJx4a65c 9 "java/util/ArrayList" "elementData" "[Ljava/lang/Object;") (by decide +kernel)) (fun _ h9 => h9) rfl dJx4a65c_grow_92f84_33 ?_
      refine lv_iload_n hx hb dJx4a65c_grow_92f84_36 rfl (lv_at hl 0 rfl) ?_
      refine wy_call (va_runS (As := [.ref he, .int r_14]) (rest := [.ref lo]) ⟨hx, hb, hml, hown, hts⟩ (m_J7_copyOf_1904c l ha (fun i hi y hy => by rw [hg i hi] at hy; cases hy; exact hel i hi) (r_14) (ncap n) er_14 (ncap_le hn) (ncap_gt n)) (va_cwS 2 hts gJx4a65c_grow_92f84_J7_copyOf_1904c rfl rfl rfl (by decide +kernel) ⟨Nat.le_of_ble_eq_true rfl, Nat.le_of_ble_eq_true rfl⟩) (wl_pS hK hE hw hA) rfl rfl hl.1 rfl (lv_room (Nat.le_of_ble_eq_true rfl)) dJx4a65c_grow_92f84_37 ⟨Nat.le_of_ble_eq_true rfl, Nat.le_of_ble_eq_true rfl⟩) hw hA (fun rw_15 Lw_15 fw_15 H locs hpost hw => ?_)
      obtain ⟨q0, er, eL, hfr0, hcq0, hnq0⟩ := hpost
      subst er eL
      have hc_16 := wy_c.app2 hq hfr0 hnq0
      have ne_lo_0 := wy_c.neq hq hfr0
      refine lv_dup_x1 hx hb dJx4a65c_grow_92f84_40 rfl rfl ?_
      refine wy_put (ci := 0) (v := .ref q0) (ty := .array (.object "java/lang/Object")) (C := RJx4a65c) (T := TJx4a65c) (N := 3) hx hb hts hinJx4a65c tyJx4a65c tyJx4a65c_ok nmJx4a65c hown hK hw hc_16 rfl 1 (by decide) (hts (.fieldLink RJx4a65c 9 "java/util/ArrayList" "elementData" "[Ljava/lang/Object;") (by decide +kernel)) (fun _ h9 => h9) rfl (by decide +kernel) rfl rfl (Nat.le_of_ble_eq_true rfl) dJx4a65c_grow_92f84_41 (fun H locs f_17 hs_18 hn_19 hw => ?_)
      have hc_20 := wy_c.ne2 hcq0 hn_19 ne_lo_0.symm
      have hc_21 : wy_c (L ++ [q0]) f_17 lo (.inr (0, [.int md, .ref q0, .int (nI n)])) := hs_18
      exact wy_aW hx hb hr (Or.inr ⟨_, rfl⟩) hlocks dJx4a65c_grow_92f84_44 hw (Nat.le_of_ble_eq_true rfl) (Nat.le_of_ble_eq_true rfl) ⟨q0, ncap n, _, rfl, rfl, hfr0, hc_21, hc_20, ncap_gt n, Nat.le_trans (ncap_le hn) (by decide), fun k hk => (wl_cpy hk).trans (hg k hk), fun z hz hz1 => (hn_19 z hz1).trans (hnq0 z (fun e => hfr0 (e ▸ hz)))⟩
    · refine lv_aload_n hx hb dJx4a65c_grow_92f84_10 rfl (lv_at hl 1 rfl) ?_
      refine wy_get (ci := 0) (v := .ref he) (C := RJx4a65c) (T := TJx4a65c) (N := 3) hx hb hts hinJx4a65c hown hK hw.1 hq rfl 1 (by decide) (hts (.fieldLink RJx4a65c 9 "java/util/ArrayList" "elementData" "[Ljava/lang/Object;") (by decide +kernel)) (fun _ h9 => h9) rfl dJx4a65c_grow_92f84_11 ?_
      refine va_gets hx hb hE.1 hw.2.2 hown (hts (.fieldLink RJx4a65c 39 "java/util/ArrayList" "DEFAULTCAPACITY_EMPTY_ELEMENTDATA" "[Ljava/lang/Object;") (by decide +kernel)) (fun _ h9 => h9) dJx4a65c_grow_92f84_14 ?_
      refine lv_acmp_eq (rx := some he) (ry := some (G.2 5)) (tgt := 45) hx hb dJx4a65c_grow_92f84_17 (by decide) (fun c_22 => ?_) (fun c_22 => ?_)
      · exact absurd (Or.inl (by have e := Option.some.inj c_22; rw [e] at ha; exact ha.1)) hE.2.1.out
      · refine lv_iload_n hx hb dJx4a65c_grow_92f84_20 rfl (lv_at hl 0 rfl) ?_
        refine lv_iload_n hx hb dJx4a65c_grow_92f84_21 rfl (lv_at hl 2 rfl) ?_
        refine lv_iload_n hx hb dJx4a65c_grow_92f84_22 rfl (lv_at hl 0 rfl) ?_
        refine lv_isub hx hb dJx4a65c_grow_92f84_23 ?_
        refine lv_topi (fun x_23 ex_23 => ?_)
        refine lv_iload_n hx hb dJx4a65c_grow_92f84_24 rfl (lv_at hl 0 rfl) ?_
        refine lv_iconst (v := 1) hx hb dJx4a65c_grow_92f84_25 (by decide) ?_
        refine lv_ishr hx hb dJx4a65c_grow_92f84_26 ?_
        refine lv_topi (fun x_24 ex_24 => ?_)
        refine vp_callSi (W.runS (As := [.int (nI n), .int x_23, .int x_24]) (rest := []) ⟨hx, hb, hml, hown, hts⟩ (m_J8_newLength_cabcc l (nI n) (x_23) (x_24) n hn rfl (by rw [ex_23, e1]; exact (pk_sub (by omega)).trans (by rw [Nat.add_sub_cancel_left])) (ex_24.trans (wl_shr (by omega) rfl rfl))) (va_cwS 3 hts gJx4a65c_grow_92f84_J8_newLength_cabcc rfl rfl rfl (by decide +kernel) ⟨Nat.le_of_ble_eq_true rfl, Nat.le_of_ble_eq_true rfl⟩) (wy_pSN) rfl rfl hl.1 rfl (lv_room (Nat.le_of_ble_eq_true rfl)) dJx4a65c_grow_92f84_27 ⟨Nat.le_of_ble_eq_true rfl, Nat.le_of_ble_eq_true rfl⟩) (fun r_25 er_25 => ?_)
        refine lv_istore_n (lv' := [(3, .int r_25), (2, .int (nI n)), (0, .ref lo), (1, .int p1)]) hx hb dJx4a65c_grow_92f84_30 rfl hl (by decide) rfl (fun ls hl => ?_)
        refine lv_aload_n hx hb dJx4a65c_grow_92f84_31 rfl (lv_at hl 2 rfl) ?_
        refine lv_aload_n hx hb dJx4a65c_grow_92f84_32 rfl (lv_at hl 2 rfl) ?_
        refine wy_get (ci := 0) (v := .ref he) (C := RJx4a65c) (T := TJx4a65c) (N := 3) hx hb hts hinJx4a65c hown hK hw.1 hq rfl 1 (by decide) (hts (.fieldLink RJx4a65c 9 "java/util/ArrayList" "elementData" "[Ljava/lang/Object;") (by decide +kernel)) (fun _ h9 => h9) rfl dJx4a65c_grow_92f84_33 ?_
        refine lv_iload_n hx hb dJx4a65c_grow_92f84_36 rfl (lv_at hl 0 rfl) ?_
        refine wy_call (va_runS (As := [.ref he, .int r_25]) (rest := [.ref lo]) ⟨hx, hb, hml, hown, hts⟩ (m_J7_copyOf_1904c l ha (fun i hi y hy => by rw [hg i hi] at hy; cases hy; exact hel i hi) (r_25) (ncap n) er_25 (ncap_le hn) (ncap_gt n)) (va_cwS 2 hts gJx4a65c_grow_92f84_J7_copyOf_1904c rfl rfl rfl (by decide +kernel) ⟨Nat.le_of_ble_eq_true rfl, Nat.le_of_ble_eq_true rfl⟩) (wl_pS hK hE hw hA) rfl rfl hl.1 rfl (lv_room (Nat.le_of_ble_eq_true rfl)) dJx4a65c_grow_92f84_37 ⟨Nat.le_of_ble_eq_true rfl, Nat.le_of_ble_eq_true rfl⟩) hw hA (fun rw_26 Lw_26 fw_26 H locs hpost hw => ?_)
        obtain ⟨q0, er, eL, hfr0, hcq0, hnq0⟩ := hpost
        subst er eL
        have hc_27 := wy_c.app2 hq hfr0 hnq0
        have ne_lo_0 := wy_c.neq hq hfr0
        refine lv_dup_x1 hx hb dJx4a65c_grow_92f84_40 rfl rfl ?_
        refine wy_put (ci := 0) (v := .ref q0) (ty := .array (.object "java/lang/Object")) (C := RJx4a65c) (T := TJx4a65c) (N := 3) hx hb hts hinJx4a65c tyJx4a65c tyJx4a65c_ok nmJx4a65c hown hK hw hc_27 rfl 1 (by decide) (hts (.fieldLink RJx4a65c 9 "java/util/ArrayList" "elementData" "[Ljava/lang/Object;") (by decide +kernel)) (fun _ h9 => h9) rfl (by decide +kernel) rfl rfl (Nat.le_of_ble_eq_true rfl) dJx4a65c_grow_92f84_41 (fun H locs f_28 hs_29 hn_30 hw => ?_)
        have hc_31 := wy_c.ne2 hcq0 hn_30 ne_lo_0.symm
        have hc_32 : wy_c (L ++ [q0]) f_28 lo (.inr (0, [.int md, .ref q0, .int (nI n)])) := hs_29
        exact wy_aW hx hb hr (Or.inr ⟨_, rfl⟩) hlocks dJx4a65c_grow_92f84_44 hw (Nat.le_of_ble_eq_true rfl) (Nat.le_of_ble_eq_true rfl) ⟨q0, ncap n, _, rfl, rfl, hfr0, hc_32, hc_31, ncap_gt n, Nat.le_trans (ncap_le hn) (by decide), fun k hk => (wl_cpy hk).trans (hg k hk), fun z hz hz1 => (hn_30 z hz1).trans (hnq0 z (fun e => hfr0 (e ▸ hz)))⟩
set_option maxHeartbeats 4000000 in
set_option maxRecDepth 100000 in
theorem m_Jx4a65c_grow_d5877 (l : Launch) {G : wy_G} {L : List Nat} {f : Nat → va_E} {sz : Nat} {lo he n : Nat} {md : Int32} {ra : Nat → Nat} (hq : wy_c L f lo (.inr (0, [.int md, .ref he, .int (nI n)]))) (hf : wl_f G L f he n ra) (hn : n ≤ 40) (hel : ∀ k, k < n → ∃ fs, wy_c L f (ra k) (.inr (1, fs))) : Met l yJx4a65c_grow_d5877 wsJx4a65c_grow_d5877 ({ frames := 4, cells := 1, slots := 60, locals := 107 } : Room) (va_Pc [.ref lo] (wl_P G L f sz)) (wy_Q G (wl_g G L f lo n md ra) (wy_A L sz)) 1 60 (wy_A L sz) := by
  refine Met.ofW (cc := cJx4a65c_grow_d5877) (maxL := 1) (ret := (some (.array (.object "java/lang/Object")))) (by decide) rfl ?_
  intro p e s m args below meth c s₁ B hml hv
  obtain ⟨rfl, hv, hE⟩ := hv
  obtain ⟨hw, hK, hA⟩ := wy_start hv
  have hsz := hv.1
  subst hsz
  have hx := B.exec
  have hb := B.bytes
  have hr := B.returns
  have hts := atoms_spec (ws := wsJx4a65c_grow_d5877) B.pre
  have hown : s.vm.findClass RJx4a65c = some m.cls := findClass_of_methodNamed B.named
  have hlocks := B.notSynchronized
  have hinJx4a65c : ∀ w ∈ wsJx4a65c0, w ∈ wsJx4a65c_grow_d5877 := by decide +kernel
  have hl := lv_entry ([.ref lo]) (n := 1) (Nat.le_of_ble_eq_true rfl)
  rw [lg_entry_eq]
  generalize (lg_sl ([.ref lo]) ++ List.replicate (1 - (lg_sl ([.ref lo])).length) Slot.unset).toArray = ls at hl ⊢
  have hl : lv_has ls 1 [(0, .ref lo)] := hl
  refine lv_aload_n hx hb dJx4a65c_grow_d5877_0 rfl (lv_at hl 0 rfl) ?_
  refine lv_aload_n hx hb dJx4a65c_grow_d5877_1 rfl (lv_at hl 0 rfl) ?_
  refine wy_get (ci := 0) (v := .int (nI n)) (C := RJx4a65c) (T := TJx4a65c) (N := 3) hx hb hts hinJx4a65c hown hK hw.1 hq rfl 2 (by decide) (hts (.fieldLink RJx4a65c 48 "java/util/ArrayList" "size" "I") (by decide +kernel)) (fun _ h9 => h9) rfl dJx4a65c_grow_d5877_2 ?_
  refine lv_iconst (v := 1) hx hb dJx4a65c_grow_d5877_5 (by decide) ?_
  refine lv_iadd hx hb dJx4a65c_grow_d5877_6 ?_
  refine lv_topi (fun x_1 ex_1 => ?_)
  have nx_1 : x_1 = nI (n + 1) := ex_1.trans ((congr (congrArg (fun u v : Int32 => u + v) rfl) (rfl : (1 : Int32) = nI 1)).trans (nI_add _ _))
  refine wy_call (va_runV (As := [.int x_1]) (rest := []) ⟨hx, hb, hml, hown, hts⟩ (m_Jx4a65c_grow_92f84 l hq hf hn hel (x_1) nx_1) (cwV 1 hts gJx4a65c_grow_d5877_Jx4a65c_grow_92f84 rfl rfl rfl (by decide +kernel) ⟨Nat.le_of_ble_eq_true rfl, Nat.le_of_ble_eq_true rfl⟩) (wl_pV hK hE hw hA hq rfl) rfl rfl hl.1 rfl (lv_room (Nat.le_of_ble_eq_true rfl)) dJx4a65c_grow_d5877_7 ⟨Nat.le_of_ble_eq_true rfl, Nat.le_of_ble_eq_true rfl⟩) hw hA (fun rw_2 Lw_2 fw_2 H locs hpost hw => ?_)
  obtain ⟨q0, cap2, g2, er, eL, hfr0, hlo, hq0, hgt, hcap2, hg2, hfr⟩ := hpost
  subst er eL
  exact wy_aW hx hb hr (Or.inr ⟨_, rfl⟩) hlocks dJx4a65c_grow_d5877_10 hw (Nat.le_of_ble_eq_true rfl) (Nat.le_of_ble_eq_true rfl) ⟨q0, cap2, g2, rfl, rfl, hfr0, hlo, hq0, hgt, hcap2, hg2, hfr⟩
set_option maxHeartbeats 4000000 in
set_option maxRecDepth 100000 in
theorem m_Jx4a65c_add_72be8 (l : Launch) {G : wy_G} {L : List Nat} {f : Nat → va_E} {sz : Nat} {lo he n : Nat} {md : Int32} {ra : Nat → Nat} (hq : wy_c L f lo (.inr (0, [.int md, .ref he, .int (nI n)]))) (hf : (n = 0 ∧ he = G.2 5) ∨ ∃ cap g, wy_c L f he (.inl (G.2 2, cap, .inr (.inr (.inr (.inr g))))) ∧ n ≤ cap ∧ cap ≤ 100 ∧ ∀ k, k < n → g k = some (ra k)) (hn : n ≤ 39) (hel : ∀ k, k < n → ∃ fs, wy_c L f (ra k) (.inr (1, fs))) {v : Nat} {fs : List Value} (hvv : wy_c L f v (.inr (1, fs))) (p3 : Int32) (e3 : p3 = nI n) : Met l yJx4a65c_add_72be8 wsJx4a65c_add_72be8 ({ frames := 5, cells := 1, slots := 60, locals := 127 } : Room) (va_Pc [.ref lo, .ref v, .ref he, .int p3] (wl_P G L f sz)) (wy_Q G (wl_a G L f lo n v ra none) (wy_A L sz)) 1 60 (wy_A L sz) := by
  refine Met.ofW (cc := cJx4a65c_add_72be8) (maxL := 4) (ret := none) (by decide) rfl ?_
  intro p e s m args below meth c s₁ B hml hv
  obtain ⟨rfl, hv, hE⟩ := hv
  obtain ⟨hw, hK, hA⟩ := wy_start hv
  have hsz := hv.1
  subst hsz
  have hx := B.exec
  have hb := B.bytes
  have hr := B.returns
  have hts := atoms_spec (ws := wsJx4a65c_add_72be8) B.pre
  have hown : s.vm.findClass RJx4a65c = some m.cls := findClass_of_methodNamed B.named
  have hlocks := B.notSynchronized
  have hinJx4a65c : ∀ w ∈ wsJx4a65c0, w ∈ wsJx4a65c_add_72be8 := by decide +kernel
  have hl := lv_entry ([.ref lo, .ref v, .ref he, .int p3]) (n := 4) (Nat.le_of_ble_eq_true rfl)
  rw [lg_entry_eq]
  generalize (lg_sl ([.ref lo, .ref v, .ref he, .int p3]) ++ List.replicate (4 - (lg_sl ([.ref lo, .ref v, .ref he, .int p3])).length) Slot.unset).toArray = ls at hl ⊢
  have hl : lv_has ls 4 [(0, .ref lo), (1, .ref v), (2, .ref he), (3, .int p3)] := hl
  refine lv_iload_n hx hb dJx4a65c_add_72be8_0 rfl (lv_at hl 3 rfl) ?_
  refine lv_aload_n hx hb dJx4a65c_add_72be8_1 rfl (lv_at hl 2 rfl) ?_
  rcases hf with ⟨hn0, he0⟩ | ⟨cap, g0, ha, hle, hcap, hg⟩
  · subst he0
    refine va_tlen hx hb hE.2.1 hw.2.2 (v := 0) rfl dJx4a65c_add_72be8_2 ?_
    refine lv_icmp_ne (tgt := 11) hx hb dJx4a65c_add_72be8_3 (by decide) (fun c_1 => ?_) (fun c_1 => ?_)
    · have nc_1 : ¬ (n = 0) := fun z => c_1 ((wy_eq e3 rfl (by omega) (by decide)).mpr z)
      exact absurd hn0 nc_1
    · have nc_1 : n = 0 := (wy_eq e3 rfl (by omega) (by decide)).mp c_1
      refine lv_aload_n hx hb dJx4a65c_add_72be8_6 rfl (lv_at hl 0 rfl) ?_
      refine wy_call (va_runV (As := []) (rest := []) ⟨hx, hb, hml, hown, hts⟩ (m_Jx4a65c_grow_d5877 l hq (Or.inl ⟨hn0, rfl⟩) (by omega) hel) (cwV 0 hts gJx4a65c_add_72be8_Jx4a65c_grow_d5877 rfl rfl rfl (by decide +kernel) ⟨Nat.le_of_ble_eq_true rfl, Nat.le_of_ble_eq_true rfl⟩) (wl_pV hK hE hw hA hq rfl) rfl rfl hl.1 rfl (lv_room (Nat.le_of_ble_eq_true rfl)) dJx4a65c_add_72be8_7 ⟨Nat.le_of_ble_eq_true rfl, Nat.le_of_ble_eq_true rfl⟩) hw hA (fun rw_2 Lw_2 fw_2 H locs hpost hw => ?_)
      obtain ⟨q0, cap2, g2, er, eL, hfr0, hlo, hq0, hgt, hcap2, hg2, hfr⟩ := hpost
      subst er eL
      have hv2 : wy_c (L ++ [q0]) fw_2 v (.inr (1, fs)) := ⟨List.mem_append_left _ hvv.1, (hfr v hvv.1 (wy_c.nek hvv hq (by simp))).trans hvv.2⟩
      refine lv_astore_n (lv' := [(2, .ref q0), (0, .ref lo), (1, .ref v), (3, .int p3)]) hx hb dJx4a65c_add_72be8_10 rfl hl (by decide) rfl (fun ls hl => ?_)
      refine lv_aload_n hx hb dJx4a65c_add_72be8_11 rfl (lv_at hl 0 rfl) ?_
      refine lv_iload_n hx hb dJx4a65c_add_72be8_12 rfl (lv_at hl 3 rfl) ?_
      refine lv_aload_n hx hb dJx4a65c_add_72be8_13 rfl (lv_at hl 2 rfl) ?_
      refine wy_aast (ci := 1) hx hb hK hw hq0 hv2 rfl hE.2.2.1 (n) e3 hgt (by omega) dJx4a65c_add_72be8_14 (fun H locs fz hz hnz hw => ?_)
      have hlz := wy_c.ne2 hlo hnz (wy_c.nek hlo hq0 (by simp))
      have hnel := wy_c.nek hz hlz (by simp)
      refine lv_aload_n hx hb dJx4a65c_add_72be8_15 rfl (lv_at hl 1 rfl) ?_
      refine lv_iload_n hx hb dJx4a65c_add_72be8_16 rfl (lv_at hl 3 rfl) ?_
      refine lv_iconst (v := 1) hx hb dJx4a65c_add_72be8_17 (by decide) ?_
      refine lv_iadd hx hb dJx4a65c_add_72be8_18 ?_
      refine lv_topi (fun x_3 ex_3 => ?_)
      have nx_3 : x_3 = nI (n + 1) := ex_3.trans ((congr (congrArg (fun u v : Int32 => u + v) e3) (rfl : (1 : Int32) = nI 1)).trans (nI_add _ _))
      obtain rfl : x_3 = nI (n + 1) := nx_3
      refine wy_put (ci := 0) (v := .int (nI (n + 1))) (ty := .int) (C := RJx4a65c) (T := TJx4a65c) (N := 3) hx hb hts hinJx4a65c tyJx4a65c tyJx4a65c_ok nmJx4a65c hown hK hw hlz rfl 2 (by decide) (hts (.fieldLink RJx4a65c 48 "java/util/ArrayList" "size" "I") (by decide +kernel)) (fun _ h9 => h9) rfl (by decide +kernel) rfl rfl (Nat.le_of_ble_eq_true rfl) dJx4a65c_add_72be8_19 (fun H locs f_4 hs_5 hn_6 hw => ?_)
      have hc_7 := wy_c.ne2 hz hn_6 hnel
      have hc_8 : wy_c (L ++ [q0]) f_4 lo (.inr (0, [.int md, .ref q0, .int (nI (n + 1))])) := hs_5
      exact wy_vW hx hb hr hlocks dJx4a65c_add_72be8_22 hw (Nat.le_of_ble_eq_true rfl) (Nat.le_of_ble_eq_true rfl) ⟨rfl, fun z h => List.mem_append_left _ h, wx_l.push hc_8 hc_7 hgt hcap2 hg2, fun z hz hz1 hz2 => (hn_6 z hz1).trans ((hnz z (fun e => hfr0 (e ▸ hz))).trans (hfr z hz hz1))⟩
  · refine wy_alen hx hb hK hw.1 (t0 := 2) ha rfl dJx4a65c_add_72be8_2 ?_
    refine lv_icmp_ne (tgt := 11) hx hb dJx4a65c_add_72be8_3 (by decide) (fun c_9 => ?_) (fun c_9 => ?_)
    · have nc_9 : ¬ (n = cap) := fun z => c_9 ((wy_eq e3 rfl (by omega) (by omega)).mpr z)
      have hgt : n < cap := by omega
      refine lv_aload_n hx hb dJx4a65c_add_72be8_11 rfl (lv_at hl 2 rfl) ?_
      refine lv_iload_n hx hb dJx4a65c_add_72be8_12 rfl (lv_at hl 3 rfl) ?_
      refine lv_aload_n hx hb dJx4a65c_add_72be8_13 rfl (lv_at hl 1 rfl) ?_
      refine wy_aast (ci := 1) hx hb hK hw ha hvv rfl hE.2.2.1 (n) e3 hgt (by omega) dJx4a65c_add_72be8_14 (fun H locs fz hz hnz hw => ?_)
      have hlz := wy_c.ne2 hq hnz (wy_c.nek hq ha (by simp))
      have hnel := wy_c.nek hz hlz (by simp)
      refine lv_aload_n hx hb dJx4a65c_add_72be8_15 rfl (lv_at hl 0 rfl) ?_
      refine lv_iload_n hx hb dJx4a65c_add_72be8_16 rfl (lv_at hl 3 rfl) ?_
      refine lv_iconst (v := 1) hx hb dJx4a65c_add_72be8_17 (by decide) ?_
      refine lv_iadd hx hb dJx4a65c_add_72be8_18 ?_
      refine lv_topi (fun x_10 ex_10 => ?_)
      have nx_10 : x_10 = nI (n + 1) := ex_10.trans ((congr (congrArg (fun u v : Int32 => u + v) e3) (rfl : (1 : Int32) = nI 1)).trans (nI_add _ _))
      obtain rfl : x_10 = nI (n + 1) := nx_10
      refine wy_put (ci := 0) (v := .int (nI (n + 1))) (ty := .int) (C := RJx4a65c) (T := TJx4a65c) (N := 3) hx hb hts hinJx4a65c tyJx4a65c tyJx4a65c_ok nmJx4a65c hown hK hw hlz rfl 2 (by decide) (hts (.fieldLink RJx4a65c 48 "java/util/ArrayList" "size" "I") (by decide +kernel)) (fun _ h9 => h9) rfl (by decide +kernel) rfl rfl (Nat.le_of_ble_eq_true rfl) dJx4a65c_add_72be8_19 (fun H locs f_11 hs_12 hn_13 hw => ?_)
      have hc_14 := wy_c.ne2 hz hn_13 hnel
      have hc_15 : wy_c L f_11 lo (.inr (0, [.int md, .ref he, .int (nI (n + 1))])) := hs_12
      exact wy_vW hx hb hr hlocks dJx4a65c_add_72be8_22 hw (Nat.le_of_ble_eq_true rfl) (Nat.le_of_ble_eq_true rfl) ⟨rfl, fun _ h => h, wx_l.push hc_15 hc_14 hgt hcap hg, fun z hz hz1 hz2 => (hn_13 z hz1).trans (hnz z (fun e => hz2 cap g0 (by rw [e]; exact ha.2)))⟩
    · have nc_9 : n = cap := (wy_eq e3 rfl (by omega) (by omega)).mp c_9
      rw [← nc_9] at ha
      refine lv_aload_n hx hb dJx4a65c_add_72be8_6 rfl (lv_at hl 0 rfl) ?_
      refine wy_call (va_runV (As := []) (rest := []) ⟨hx, hb, hml, hown, hts⟩ (m_Jx4a65c_grow_d5877 l hq (Or.inr ⟨g0, ha, hg⟩) (by omega) hel) (cwV 0 hts gJx4a65c_add_72be8_Jx4a65c_grow_d5877 rfl rfl rfl (by decide +kernel) ⟨Nat.le_of_ble_eq_true rfl, Nat.le_of_ble_eq_true rfl⟩) (wl_pV hK hE hw hA hq rfl) rfl rfl hl.1 rfl (lv_room (Nat.le_of_ble_eq_true rfl)) dJx4a65c_add_72be8_7 ⟨Nat.le_of_ble_eq_true rfl, Nat.le_of_ble_eq_true rfl⟩) hw hA (fun rw_16 Lw_16 fw_16 H locs hpost hw => ?_)
      obtain ⟨q0, cap2, g2, er, eL, hfr0, hlo, hq0, hgt, hcap2, hg2, hfr⟩ := hpost
      subst er eL
      have hv2 : wy_c (L ++ [q0]) fw_16 v (.inr (1, fs)) := ⟨List.mem_append_left _ hvv.1, (hfr v hvv.1 (wy_c.nek hvv hq (by simp))).trans hvv.2⟩
      refine lv_astore_n (lv' := [(2, .ref q0), (0, .ref lo), (1, .ref v), (3, .int p3)]) hx hb dJx4a65c_add_72be8_10 rfl hl (by decide) rfl (fun ls hl => ?_)
      refine lv_aload_n hx hb dJx4a65c_add_72be8_11 rfl (lv_at hl 0 rfl) ?_
      refine lv_iload_n hx hb dJx4a65c_add_72be8_12 rfl (lv_at hl 3 rfl) ?_
      refine lv_aload_n hx hb dJx4a65c_add_72be8_13 rfl (lv_at hl 2 rfl) ?_
      refine wy_aast (ci := 1) hx hb hK hw hq0 hv2 rfl hE.2.2.1 (n) e3 hgt (by omega) dJx4a65c_add_72be8_14 (fun H locs fz hz hnz hw => ?_)
      have hlz := wy_c.ne2 hlo hnz (wy_c.nek hlo hq0 (by simp))
      have hnel := wy_c.nek hz hlz (by simp)
      refine lv_aload_n hx hb dJx4a65c_add_72be8_15 rfl (lv_at hl 1 rfl) ?_
      refine lv_iload_n hx hb dJx4a65c_add_72be8_16 rfl (lv_at hl 3 rfl) ?_
      refine lv_iconst (v := 1) hx hb dJx4a65c_add_72be8_17 (by decide) ?_
      refine lv_iadd hx hb dJx4a65c_add_72be8_18 ?_
      refine lv_topi (fun x_17 ex_17 => ?_)
      have nx_17 : x_17 = nI (n + 1) := ex_17.trans ((congr (congrArg (fun u v : Int32 => u + v) e3) (rfl : (1 : Int32) = nI 1)).trans (nI_add _ _))
      obtain rfl : x_17 = nI (n + 1) := nx_17
      refine wy_put (ci := 0) (v := .int (nI (n + 1))) (ty := .int) (C := RJx4a65c) (T := TJx4a65c) (N := 3) hx hb hts hinJx4a65c tyJx4a65c tyJx4a65c_ok nmJx4a65c hown hK hw hlz rfl 2 (by decide) (hts (.fieldLink RJx4a65c 48 "java/util/ArrayList" "size" "I") (by decide +kernel)) (fun _ h9 => h9) rfl (by decide +kernel) rfl rfl (Nat.le_of_ble_eq_true rfl) dJx4a65c_add_72be8_19 (fun H locs f_18 hs_19 hn_20 hw => ?_)
      have hc_21 := wy_c.ne2 hz hn_20 hnel
      have hc_22 : wy_c (L ++ [q0]) f_18 lo (.inr (0, [.int md, .ref q0, .int (nI (n + 1))])) := hs_19
      exact wy_vW hx hb hr hlocks dJx4a65c_add_72be8_22 hw (Nat.le_of_ble_eq_true rfl) (Nat.le_of_ble_eq_true rfl) ⟨rfl, fun z h => List.mem_append_left _ h, wx_l.push hc_22 hc_21 hgt hcap2 hg2, fun z hz hz1 hz2 => (hn_20 z hz1).trans ((hnz z (fun e => hfr0 (e ▸ hz))).trans (hfr z hz hz1))⟩
set_option maxHeartbeats 4000000 in
set_option maxRecDepth 100000 in
theorem m_Jx4a65c_add_9ea2d (l : Launch) {G : wy_G} {L : List Nat} {f : Nat → va_E} {sz : Nat} {lo n : Nat} {ra : Nat → Nat} (hq : wx_l G L f lo n ra) (hn : n ≤ 39) (hel : ∀ k, k < n → ∃ fs, wy_c L f (ra k) (.inr (1, fs))) {v : Nat} {fs : List Value} (hvv : wy_c L f v (.inr (1, fs))) : Met l yJx4a65c_add_9ea2d wsJx4a65c_add_9ea2d ({ frames := 6, cells := 1, slots := 60, locals := 150 } : Room) (va_Pc [.ref lo, .ref v] (wl_P G L f sz)) (wy_Q G (wl_a G L f lo n v ra (some (.int 1))) (wy_A L sz)) 1 60 (wy_A L sz) := by
  refine Met.ofW (cc := cJx4a65c_add_9ea2d) (maxL := 2) (ret := (some .boolean)) (by decide) rfl ?_
  intro p e s m args below meth c s₁ B hml hv
  obtain ⟨rfl, hv, hE⟩ := hv
  obtain ⟨hw, hK, hA⟩ := wy_start hv
  have hsz := hv.1
  subst hsz
  have hx := B.exec
  have hb := B.bytes
  have hr := B.returns
  have hts := atoms_spec (ws := wsJx4a65c_add_9ea2d) B.pre
  have hown : s.vm.findClass RJx4a65c = some m.cls := findClass_of_methodNamed B.named
  have hlocks := B.notSynchronized
  have hinJx4a65c : ∀ w ∈ wsJx4a65c0, w ∈ wsJx4a65c_add_9ea2d := by decide +kernel
  obtain ⟨md, he, cap, gg, hL1, hL2, hL3, hL4, hL5⟩ := id hq
  have hl := lv_entry ([.ref lo, .ref v]) (n := 2) (Nat.le_of_ble_eq_true rfl)
  rw [lg_entry_eq]
  generalize (lg_sl ([.ref lo, .ref v]) ++ List.replicate (2 - (lg_sl ([.ref lo, .ref v])).length) Slot.unset).toArray = ls at hl ⊢
  have hl : lv_has ls 2 [(0, .ref lo), (1, .ref v)] := hl
  refine lv_aload_n hx hb dJx4a65c_add_9ea2d_0 rfl (lv_at hl 0 rfl) ?_
  refine lv_dup hx hb dJx4a65c_add_9ea2d_1 rfl ?_
  refine wy_get (ci := 0) (v := .int md) (C := RJx4a65c) (T := TJx4a65c) (N := 3) hx hb hts hinJx4a65c hown hK hw.1 hL1 rfl 0 (by decide) (hts (.fieldLink RJx4a65c 63 "java/util/ArrayList" "modCount" "I") (by decide +kernel)) (fun x h9 => u_same (hts (.sameField "java/util/ArrayList" "java/util/AbstractList" "modCount" "I") (by decide +kernel)) x h9) rfl dJx4a65c_add_9ea2d_2 ?_
  refine lv_iconst (v := 1) hx hb dJx4a65c_add_9ea2d_5 (by decide) ?_
  refine lv_iadd hx hb dJx4a65c_add_9ea2d_6 ?_
  refine lv_topi (fun x_1 ex_1 => ?_)
  refine wy_put (ci := 0) (v := .int x_1) (ty := .int) (C := RJx4a65c) (T := TJx4a65c) (N := 3) hx hb hts hinJx4a65c tyJx4a65c tyJx4a65c_ok nmJx4a65c hown hK hw hL1 rfl 0 (by decide) (hts (.fieldLink RJx4a65c 63 "java/util/ArrayList" "modCount" "I") (by decide +kernel)) (fun x h9 => u_same (hts (.sameField "java/util/ArrayList" "java/util/AbstractList" "modCount" "I") (by decide +kernel)) x h9) rfl (by decide +kernel) rfl rfl (Nat.le_of_ble_eq_true rfl) dJx4a65c_add_9ea2d_7 (fun H locs f_2 hs_3 hn_4 hw => ?_)
  have hc_5 : wy_c L f_2 lo (.inr (0, [.int x_1, .ref he, .int (nI n)])) := hs_3
  refine lv_aload_n hx hb dJx4a65c_add_9ea2d_10 rfl (lv_at hl 0 rfl) ?_
  refine lv_aload_n hx hb dJx4a65c_add_9ea2d_11 rfl (lv_at hl 1 rfl) ?_
  refine lv_aload_n hx hb dJx4a65c_add_9ea2d_12 rfl (lv_at hl 0 rfl) ?_
  refine wy_get (ci := 0) (v := .ref he) (C := RJx4a65c) (T := TJx4a65c) (N := 3) hx hb hts hinJx4a65c hown hK hw.1 hc_5 rfl 1 (by decide) (hts (.fieldLink RJx4a65c 9 "java/util/ArrayList" "elementData" "[Ljava/lang/Object;") (by decide +kernel)) (fun _ h9 => h9) rfl dJx4a65c_add_9ea2d_13 ?_
  refine lv_aload_n hx hb dJx4a65c_add_9ea2d_16 rfl (lv_at hl 0 rfl) ?_
  refine wy_get (ci := 0) (v := .int (nI n)) (C := RJx4a65c) (T := TJx4a65c) (N := 3) hx hb hts hinJx4a65c hown hK hw.1 hc_5 rfl 2 (by decide) (hts (.fieldLink RJx4a65c 48 "java/util/ArrayList" "size" "I") (by decide +kernel)) (fun _ h9 => h9) rfl dJx4a65c_add_9ea2d_17 ?_
  have hv1 := wy_c.ne2 hvv hn_4 (wy_c.nek hvv hL1 (by simp))
  have hf1 : (n = 0 ∧ he = G.2 5) ∨ ∃ cap g, wy_c L f_2 he (.inl (G.2 2, cap, .inr (.inr (.inr (.inr g))))) ∧ n ≤ cap ∧ cap ≤ 100 ∧ ∀ k, k < n → g k = some (ra k) := hL2.imp (fun z => ⟨z.1, z.2.2⟩) (fun z => ⟨cap, gg, wy_c.ne2 z hn_4 (wy_c.nek z hL1 (by simp)), hL3, hL4, hL5⟩)
  have hel1 : ∀ k, k < n → ∃ fs, wy_c L f_2 (ra k) (.inr (1, fs)) := fun k hk => by
    obtain ⟨fs, h⟩ := hel k hk
    exact ⟨fs, wy_c.ne2 h hn_4 (wy_c.nek h hL1 (by simp))⟩
  refine wy_call (va_runV (As := [.ref v, .ref he, .int (nI n)]) (rest := []) ⟨hx, hb, hml, hown, hts⟩ (m_Jx4a65c_add_72be8 l hc_5 hf1 hn hel1 hv1 (nI n) rfl) (cwV 3 hts gJx4a65c_add_9ea2d_Jx4a65c_add_72be8 rfl rfl rfl (by decide +kernel) ⟨Nat.le_of_ble_eq_true rfl, Nat.le_of_ble_eq_true rfl⟩) (wl_pV hK hE hw hA hc_5 rfl) rfl rfl hl.1 rfl (lv_room (Nat.le_of_ble_eq_true rfl)) dJx4a65c_add_9ea2d_20 ⟨Nat.le_of_ble_eq_true rfl, Nat.le_of_ble_eq_true rfl⟩) hw hA (fun rw_6 Lw_6 fw_6 H locs hpost hw => ?_)
  obtain ⟨er, hmem, hll, hfr⟩ := hpost
  subst er
  refine lv_iconst (v := 1) hx hb dJx4a65c_add_9ea2d_23 (by decide) ?_
  exact wy_zW (b := true) rfl hx hb hr hlocks dJx4a65c_add_9ea2d_24 hw (Nat.le_of_ble_eq_true rfl) (Nat.le_of_ble_eq_true rfl) ⟨rfl, hmem, hll, fun z hz hz1 hz2 => (hfr z hz hz1 (fun cap g e => hz2 cap g ((hn_4 z hz1).symm.trans e))).trans (hn_4 z hz1)⟩
