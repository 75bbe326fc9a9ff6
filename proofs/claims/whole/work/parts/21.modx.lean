set_option maxHeartbeats 4000000 in
set_option maxRecDepth 100000 in
theorem m_X2_aboard (l : Launch) {G : wy_G} {L : List Nat} {f : Nat → va_E} {sz : Nat} {om : Nat} {ma : Nat → Nat} {n : Nat} {km mn : Int32} {wk : Nat} {th : Int32} {po : Nat → Int32} {rr : Nat → wr_V} {g0 g1 g2 g3 g4 g5 g6 g7 g8 g9 : Nat → Int32} {t : Nat} (hq : wm_S G L f om ma n km mn wk th g0 g1 g2 g3 g4 g5 g6 g7 g8 g9) (hm : wm_r po rr g0 g1 g2 g3 g4 g5 g6 g7 g8 g9) (hi : ∀ k, k < 40 → wi t (rr k)) (ht1 : t + 1 ≤ 512) (p1 : Int32) : Met l yX2_aboard wsX2_aboard ({ frames := 2, cells := 0, slots := 0, locals := 43 } : Room) (va_Pc [.ref om, .int p1] (wy_W G L f sz)) (wy_Q G (wm_p G L om ma (if okC n p1 = 0 then n else n) (if okC n p1 = 0 then km else km) (if okC n p1 = 0 then mn else mn) (if okC n p1 = 0 then wk else wk) (if okC n p1 = 0 then po else po) (if okC n p1 = 0 then rr else rr) (okC n p1) (some (.int (if okC n p1 = 0 then mks (rsd (rr (ix p1))) else 0)))) (wy_A L sz)) 0 0 (wy_A L sz) := by
  refine Met.ofW (cc := cX2_aboard) (maxL := 4) (ret := (some .int)) (by decide) rfl ?_
  intro p e s m args below meth c s₁ B hml hv
  obtain ⟨rfl, hv⟩ := hv
  obtain ⟨hw, hK, hA⟩ := wy_start hv
  have hsz := hv.1
  subst hsz
  have hx := B.exec
  have hb := B.bytes
  have hr := B.returns
  have hts := atoms_spec (ws := wsX2_aboard) B.pre
  have hown : s.vm.findClass RX2 = some m.cls := findClass_of_methodNamed B.named
  have hlocks := B.notSynchronized
  have hn : n ≤ 40 := hq.2.2.2.2.2.2.2.2.2.2.2.2.2.1
  have hwk : wk ≤ 20 := hq.2.2.2.2.2.2.2.2.2.2.2.2.2.2
  have hsN : ∀ v r, stN v r < 2 ^ 31 := fun v r => by unfold stN; split <;> (try split) <;> (try split) <;> decide
  have hdN : ∀ v r, dpN v r < 2 ^ 31 := fun v r => by unfold dpN; split <;> (try split) <;> (try split) <;> decide
  have hd1 := hq.2.2.2.2.2.2.2.2.2.2.2.1
  have hd2 := hq.2.2.2.2.2.2.2.2.2.2.2.2.1
  have ht : t ≤ 512 := by omega
  have hl := lv_entry ([.ref om, .int p1]) (n := 4) (Nat.le_of_ble_eq_true rfl)
  rw [lg_entry_eq]
  generalize (lg_sl ([.ref om, .int p1]) ++ List.replicate (4 - (lg_sl ([.ref om, .int p1])).length) Slot.unset).toArray = ls at hl ⊢
  have hl : lv_has ls 4 [(0, .ref om), (1, .int p1)] := hl
  refine lv_aload_n hx hb dX2_aboard_0 rfl (lv_at hl 0 rfl) ?_
  refine lv_aload_n hx hb dX2_aboard_1 rfl (lv_at hl 0 rfl) ?_
  refine lv_iload_n hx hb dX2_aboard_2 rfl (lv_at hl 1 rfl) ?_
  refine vp_callSi (W.runV (As := [.int p1]) (rest := [.ref om]) ⟨hx, hb, hml, hown, hts⟩ (m_X2_isRide l hq hm hi ht (p1)) (cwV 1 hts gX2_aboard_X2_isRide rfl rfl rfl (by decide +kernel) ⟨Nat.le_of_ble_eq_true rfl, Nat.le_of_ble_eq_true rfl⟩) (wy_pVR hK hw.1 hq.1 rfl) rfl rfl hl.1 rfl (lv_room (Nat.le_of_ble_eq_true rfl)) dX2_aboard_3 ⟨Nat.le_of_ble_eq_true rfl, Nat.le_of_ble_eq_true rfl⟩) (fun r_1 er_1 => ?_)
  refine lv_if_eq (tgt := 13) hx hb dX2_aboard_6 (by decide) (fun c_2 => ?_) (fun c_2 => ?_)
  · have bc_2 : (okN n p1) = false := bI_0 (er_1.symm.trans c_2)
    refine lv_iconst (v := 1) hx hb dX2_aboard_13 (by decide) ?_
    refine wy_call (va_runV (As := [.int 1]) (rest := []) ⟨hx, hb, hml, hown, hts⟩ (m_X2_fails l hq (1)) (cwV 1 hts gX2_aboard_X2_fails rfl rfl rfl (by decide +kernel) ⟨Nat.le_of_ble_eq_true rfl, Nat.le_of_ble_eq_true rfl⟩) (wy_pVW hK hw hq.1 rfl) rfl rfl hl.1 rfl (lv_room (Nat.le_of_ble_eq_true rfl)) dX2_aboard_14 ⟨Nat.le_of_ble_eq_true rfl, Nat.le_of_ble_eq_true rfl⟩) hw hA (fun rw_3 Lw_3 fw_3 H locs hpost hw => ?_)
    obtain ⟨er_3, eL_3, hq⟩ := hpost
    subst er_3
    obtain rfl := eL_3.symm
    rw [show bI (decide ((0 : Int32) < 1)) = 1 from rfl]
    refine lv_if_eq (tgt := 22) hx hb dX2_aboard_17 (by decide) (fun c_4 => ?_) (fun c_4 => ?_)
    · exact absurd c_4 (by decide)
    · have bc_4 : (true) = true := bI_1 (fun z => c_4 (rfl.trans z))
      refine lv_iconst (v := 0) hx hb dX2_aboard_20 (by decide) ?_
      exact wy_iW hx hb hr hlocks dX2_aboard_21 hw (Nat.le_of_ble_eq_true rfl) (Nat.le_of_ble_eq_true rfl) (wm_no (by simp [okC, bc_2, bc_4]) (by decide) hq hm)
  · have bc_2 : (okN n p1) = true := bI_1 (fun z => c_2 (er_1.trans z))
    obtain ⟨hk1, e1⟩ := okN_ix bc_2 (by omega)
    have hk40 : ix p1 < 40 := by omega
    refine lv_iconst (v := 0) hx hb dX2_aboard_9 (by decide) ?_
    refine lv_goto (tgt := 14) hx hb dX2_aboard_10 (by decide) ?_
    refine wy_call (va_runV (As := [.int 0]) (rest := []) ⟨hx, hb, hml, hown, hts⟩ (m_X2_fails l hq (0)) (cwV 1 hts gX2_aboard_X2_fails rfl rfl rfl (by decide +kernel) ⟨Nat.le_of_ble_eq_true rfl, Nat.le_of_ble_eq_true rfl⟩) (wy_pVW hK hw hq.1 rfl) rfl rfl hl.1 rfl (lv_room (Nat.le_of_ble_eq_true rfl)) dX2_aboard_14 ⟨Nat.le_of_ble_eq_true rfl, Nat.le_of_ble_eq_true rfl⟩) hw hA (fun rw_5 Lw_5 fw_5 H locs hpost hw => ?_)
    obtain ⟨er_5, eL_5, hq⟩ := hpost
    subst er_5
    obtain rfl := eL_5.symm
    rw [show bI (decide ((0 : Int32) < 0)) = 0 from rfl]
    refine lv_if_eq (tgt := 22) hx hb dX2_aboard_17 (by decide) (fun c_6 => ?_) (fun c_6 => ?_)
    · have bc_6 : (false) = false := bI_0 (rfl.symm.trans c_6)
      refine lv_iconst (v := 0) hx hb dX2_aboard_22 (by decide) ?_
      refine lv_istore_n (lv' := [(2, .int 0), (0, .ref om), (1, .int p1)]) hx hb dX2_aboard_23 rfl hl (by decide) rfl (fun ls hl => ?_)
      refine lv_iconst (v := 0) hx hb dX2_aboard_24 (by decide) ?_
      refine lv_istore_n (lv' := [(3, .int 0), (2, .int 0), (0, .ref om), (1, .int p1)]) hx hb dX2_aboard_25 rfl hl (by decide) rfl (fun ls hl => ?_)
      have KK : ∀ (d i : Nat), i + d = 10 → ∀ (xi_i : Int32), xi_i = nI (i) → ∀ (a_s : Int32), a_s = nI (wm (fun r => decide (stN (rr (ix p1)) r = 2)) i) → ∀ (H : Heap) (locs : List Loc) (fc : Nat → va_E), wy_H G L fc (wy_A L s.heap.size) s.heap H locs → wm_S G L fc om ma n km mn wk 0 g0 g1 g2 g3 g4 g5 g6 g7 g8 g9 → ∀ ls : Array Slot, lv_has ls 4 [(3, .int xi_i), (2, .int a_s), (0, .ref om), (1, .int p1)] → W p l e (headSpec wsX2_aboard ({ frames := 2, cells := 0, slots := 0, locals := 43 } : Room)).room s m ([.ref om, .int p1] : List Value).toArray below meth c H locs 0 0 (MQ below (wy_Q G (wm_p G L om ma (if okC n p1 = 0 then n else n) (if okC n p1 = 0 then km else km) (if okC n p1 = 0 then mn else mn) (if okC n p1 = 0 then wk else wk) (if okC n p1 = 0 then po else po) (if okC n p1 = 0 then rr else rr) (okC n p1) (some (.int (if okC n p1 = 0 then mks (rsd (rr (ix p1))) else 0)))) (wy_A L s.heap.size)) ([.ref om, .int p1] : List Value).toArray s 0 0 (wy_A L s.heap.size)) (F0 m 26 ls []) := by
        intro d
        induction d with
        | zero =>
          intro i hd_i xi_i ei_i a_s ha_s H locs fc hw hq ls hl
          refine lv_iload_n hx hb dX2_aboard_26 rfl (lv_at hl 0 rfl) ?_
          refine lv_bipush (v := 10) hx hb dX2_aboard_27 (by decide) ?_
          refine lv_icmp_ge (tgt := 58) hx hb dX2_aboard_29 (by decide) (fun c_7 => ?_) (fun c_7 => ?_)
          · have nc_7 : 10 ≤ i := (wy_ge ei_i (rfl : (10 : Int32) = nI 10) (by first | omega | exact hsN _ _ | exact hdN _ _ | exact Nat.lt_of_le_of_lt (cb_le _ _) (by omega)) (by decide)).mp c_7
            obtain rfl : 10 = i := by omega
            refine lv_iload_n hx hb dX2_aboard_58 rfl (lv_at hl 1 rfl) ?_
            exact wy_iW hx hb hr hlocks dX2_aboard_59 hw (Nat.le_of_ble_eq_true rfl) (Nat.le_of_ble_eq_true rfl) (wm_ok (by simp [okC, bc_2]) (by rw [ha_s]; exact congrArg nI (wm_ab (hi _ hk40))) hq hm)
          · have nc_7 : ¬ (10 ≤ i) := fun z => c_7 ((wy_ge ei_i (rfl : (10 : Int32) = nI 10) (by first | omega | exact hsN _ _ | exact hdN _ _ | exact Nat.lt_of_le_of_lt (cb_le _ _) (by omega)) (by decide)).mpr z)
            exact absurd nc_7 (by omega)
        | succ d ih_d =>
          intro i hd_i xi_i ei_i a_s ha_s H locs fc hw hq ls hl
          refine lv_iload_n hx hb dX2_aboard_26 rfl (lv_at hl 0 rfl) ?_
          refine lv_bipush (v := 10) hx hb dX2_aboard_27 (by decide) ?_
          refine lv_icmp_ge (tgt := 58) hx hb dX2_aboard_29 (by decide) (fun c_8 => ?_) (fun c_8 => ?_)
          · have nc_8 : 10 ≤ i := (wy_ge ei_i (rfl : (10 : Int32) = nI 10) (by first | omega | exact hsN _ _ | exact hdN _ _ | exact Nat.lt_of_le_of_lt (cb_le _ _) (by omega)) (by decide)).mp c_8
            exact absurd nc_8 (by omega)
          · have nc_8 : ¬ (10 ≤ i) := fun z => c_8 ((wy_ge ei_i (rfl : (10 : Int32) = nI 10) (by first | omega | exact hsN _ _ | exact hdN _ _ | exact Nat.lt_of_le_of_lt (cb_le _ _) (by omega)) (by decide)).mpr z)
            refine lv_iload_n hx hb dX2_aboard_32 rfl (lv_at hl 1 rfl) ?_
            refine lv_aload_n hx hb dX2_aboard_33 rfl (lv_at hl 2 rfl) ?_
            refine lv_iload_n hx hb dX2_aboard_34 rfl (lv_at hl 3 rfl) ?_
            refine lv_iload_n hx hb dX2_aboard_35 rfl (lv_at hl 0 rfl) ?_
            refine vp_callSi (W.runV (As := [.int p1, .int xi_i]) (rest := [.int a_s]) ⟨hx, hb, hml, hown, hts⟩ (m_X2_at l hq hm hi ht (p1) ((ix p1)) (by omega) e1 (xi_i) (i) (by omega) ei_i) (cwV 2 hts gX2_aboard_X2_at rfl rfl rfl (by decide +kernel) ⟨Nat.le_of_ble_eq_true rfl, Nat.le_of_ble_eq_true rfl⟩) (wy_pVR hK hw.1 hq.1 rfl) rfl rfl hl.1 rfl (lv_room (Nat.le_of_ble_eq_true rfl)) dX2_aboard_36 ⟨Nat.le_of_ble_eq_true rfl, Nat.le_of_ble_eq_true rfl⟩) (fun r_9 er_9 => ?_)
            refine lv_iconst (v := 2) hx hb dX2_aboard_39 (by decide) ?_
            refine lv_icmp_ne (tgt := 49) hx hb dX2_aboard_40 (by decide) (fun c_10 => ?_) (fun c_10 => ?_)
            · have nc_10 : ¬ (stN (rr (ix p1)) i = 2) := fun z => c_10 ((wy_eq er_9 (rfl : (2 : Int32) = nI 2) (by first | omega | exact hsN _ _ | exact hdN _ _ | exact Nat.lt_of_le_of_lt (cb_le _ _) (by omega)) (by decide)).mpr z)
              refine lv_iconst (v := 0) hx hb dX2_aboard_49 (by decide) ?_
              refine lv_ior hx hb dX2_aboard_50 ?_
              refine lv_topi (fun x_11 ex_11 => ?_)
              refine lv_istore_n (lv' := [(2, .int x_11), (3, .int xi_i), (0, .ref om), (1, .int p1)]) hx hb dX2_aboard_51 rfl hl (by decide) rfl (fun ls hl => ?_)
              obtain ⟨x_12, ex_12⟩ : ∃ y : Int32, y = xi_i + 1 := ⟨_, rfl⟩
              have nx_12 : x_12 = nI (i + 1) := by rw [ex_12, ei_i, nI_1]
              refine lv_iinc (v := x_12) (lv' := [(3, .int x_12), (2, .int x_11), (0, .ref om), (1, .int p1)]) hx hb dX2_aboard_52 hl (k := 1) rfl (by rw [ex_12]; rfl) (by decide) rfl (fun ls hl => ?_)
              refine lv_goto (tgt := 26) hx hb dX2_aboard_55 (by decide) ?_
              exact ih_d (i + 1) (by omega) _ nx_12 _ (by rw [wm_s0 (b := fun r => decide (stN (rr (ix p1)) r = 2)) (by simp [nc_10]), ← ha_s]; simp only [ex_11, ex_12]; exact Int32.or_zero) _ _ _ hw hq ls (lv_sub hl [0, 1, 2, 3] rfl)
            · have nc_10 : stN (rr (ix p1)) i = 2 := (wy_eq er_9 (rfl : (2 : Int32) = nI 2) (by first | omega | exact hsN _ _ | exact hdN _ _ | exact Nat.lt_of_le_of_lt (cb_le _ _) (by omega)) (by decide)).mp c_10
              refine lv_iconst (v := 1) hx hb dX2_aboard_43 (by decide) ?_
              refine lv_iload_n hx hb dX2_aboard_44 rfl (lv_at hl 0 rfl) ?_
              refine lv_ishl hx hb dX2_aboard_45 ?_
              refine lv_topi (fun x_13 ex_13 => ?_)
              refine lv_goto (tgt := 50) hx hb dX2_aboard_46 (by decide) ?_
              refine lv_ior hx hb dX2_aboard_50 ?_
              refine lv_topi (fun x_14 ex_14 => ?_)
              refine lv_istore_n (lv' := [(2, .int x_14), (3, .int xi_i), (0, .ref om), (1, .int p1)]) hx hb dX2_aboard_51 rfl hl (by decide) rfl (fun ls hl => ?_)
              obtain ⟨x_15, ex_15⟩ : ∃ y : Int32, y = xi_i + 1 := ⟨_, rfl⟩
              have nx_15 : x_15 = nI (i + 1) := by rw [ex_15, ei_i, nI_1]
              refine lv_iinc (v := x_15) (lv' := [(3, .int x_15), (2, .int x_14), (0, .ref om), (1, .int p1)]) hx hb dX2_aboard_52 hl (k := 1) rfl (by rw [ex_15]; rfl) (by decide) rfl (fun ls hl => ?_)
              refine lv_goto (tgt := 26) hx hb dX2_aboard_55 (by decide) ?_
              exact ih_d (i + 1) (by omega) _ nx_15 _ (by rw [wm_s1 (b := fun r => decide (stN (rr (ix p1)) r = 2)) (by omega) (by simp [nc_10]), ← ha_s]; simp only [ex_13, ex_14, ex_15, ei_i]) _ _ _ hw hq ls (lv_sub hl [0, 1, 2, 3] rfl)
      exact KK (10) 0 (by omega) _ rfl _ rfl _ _ _ hw hq ls (lv_sub hl [0, 1, 2, 3] rfl)
    · exact absurd rfl c_6
set_option maxHeartbeats 4000000 in
set_option maxRecDepth 100000 in
theorem m_X2_openDisputes (l : Launch) {G : wy_G} {L : List Nat} {f : Nat → va_E} {sz : Nat} {om : Nat} {ma : Nat → Nat} {n : Nat} {km mn : Int32} {wk : Nat} {th : Int32} {po : Nat → Int32} {rr : Nat → wr_V} {g0 g1 g2 g3 g4 g5 g6 g7 g8 g9 : Nat → Int32} {t : Nat} (hq : wm_S G L f om ma n km mn wk th g0 g1 g2 g3 g4 g5 g6 g7 g8 g9) (hm : wm_r po rr g0 g1 g2 g3 g4 g5 g6 g7 g8 g9) (hi : ∀ k, k < 40 → wi t (rr k)) (ht1 : t + 1 ≤ 512) : Met l yX2_openDisputes wsX2_openDisputes ({ frames := 1, cells := 0, slots := 0, locals := 21 } : Room) (va_Pc [.ref om] (wy_W G L f sz)) (wy_Q G (wm_p G L om ma n km mn wk po rr 0 (some (.int (opdS rr n)))) (wy_A L sz)) 0 0 (wy_A L sz) := by
  refine Met.ofW (cc := cX2_openDisputes) (maxL := 3) (ret := (some .int)) (by decide) rfl ?_
  intro p e s m args below meth c s₁ B hml hv
  obtain ⟨rfl, hv⟩ := hv
  obtain ⟨hw, hK, hA⟩ := wy_start hv
  have hsz := hv.1
  subst hsz
  have hx := B.exec
  have hb := B.bytes
  have hr := B.returns
  have hts := atoms_spec (ws := wsX2_openDisputes) B.pre
  have hown : s.vm.findClass RX2 = some m.cls := findClass_of_methodNamed B.named
  have hlocks := B.notSynchronized
  have hinX2 : ∀ w ∈ wsX20, w ∈ wsX2_openDisputes := by decide +kernel
  have hn : n ≤ 40 := hq.2.2.2.2.2.2.2.2.2.2.2.2.2.1
  have hwk : wk ≤ 20 := hq.2.2.2.2.2.2.2.2.2.2.2.2.2.2
  have hsN : ∀ v r, stN v r < 2 ^ 31 := fun v r => by unfold stN; split <;> (try split) <;> (try split) <;> decide
  have hdN : ∀ v r, dpN v r < 2 ^ 31 := fun v r => by unfold dpN; split <;> (try split) <;> (try split) <;> decide
  have hd1 := hq.2.2.2.2.2.2.2.2.2.2.2.1
  have hd2 := hq.2.2.2.2.2.2.2.2.2.2.2.2.1
  have ht : t ≤ 512 := by omega
  have hl := lv_entry ([.ref om]) (n := 3) (Nat.le_of_ble_eq_true rfl)
  rw [lg_entry_eq]
  generalize (lg_sl ([.ref om]) ++ List.replicate (3 - (lg_sl ([.ref om])).length) Slot.unset).toArray = ls at hl ⊢
  have hl : lv_has ls 3 [(0, .ref om)] := hl
  refine lv_iconst (v := 0) hx hb dX2_openDisputes_0 (by decide) ?_
  refine lv_istore_n (lv' := [(1, .int 0), (0, .ref om)]) hx hb dX2_openDisputes_1 rfl hl (by decide) rfl (fun ls hl => ?_)
  refine lv_iconst (v := 0) hx hb dX2_openDisputes_2 (by decide) ?_
  refine lv_istore_n (lv' := [(2, .int 0), (1, .int 0), (0, .ref om)]) hx hb dX2_openDisputes_3 rfl hl (by decide) rfl (fun ls hl => ?_)
  have KK : ∀ (d i : Nat), i + d = 10 * n → ∀ (xi_i : Int32), xi_i = nI (i) → ∀ (a_s : Int32), a_s = nI (cb (fun i => decide (dpN (rr (i / 10)) (i % 10) = 1)) i) → ∀ (H : Heap) (locs : List Loc) (fc : Nat → va_E), wy_H G L fc (wy_A L s.heap.size) s.heap H locs → wm_S G L fc om ma n km mn wk th g0 g1 g2 g3 g4 g5 g6 g7 g8 g9 → ∀ ls : Array Slot, lv_has ls 3 [(2, .int xi_i), (1, .int a_s), (0, .ref om)] → W p l e (headSpec wsX2_openDisputes ({ frames := 1, cells := 0, slots := 0, locals := 21 } : Room)).room s m ([.ref om] : List Value).toArray below meth c H locs 0 0 (MQ below (wy_Q G (wm_p G L om ma n km mn wk po rr 0 (some (.int (opdS rr n)))) (wy_A L s.heap.size)) ([.ref om] : List Value).toArray s 0 0 (wy_A L s.heap.size)) (F0 m 4 ls []) := by
    intro d
    induction d with
    | zero =>
      intro i hd_i xi_i ei_i a_s ha_s H locs fc hw hq ls hl
      refine lv_iload_n hx hb dX2_openDisputes_4 rfl (lv_at hl 0 rfl) ?_
      refine lv_bipush (v := 10) hx hb dX2_openDisputes_5 (by decide) ?_
      refine lv_aload_n hx hb dX2_openDisputes_7 rfl (lv_at hl 2 rfl) ?_
      refine wy_get (ci := 3) (v := .int (nI n)) (C := RX2) (T := TX2) (N := 15) hx hb hts hinX2 hown hK hw.1 hq.1 rfl 2 (by decide) (hts (.fieldLink RX2 51 "WheelpayModel" "rides" "I") (by decide +kernel)) (fun _ h9 => h9) rfl dX2_openDisputes_8 ?_
      refine lv_imul hx hb dX2_openDisputes_11 ?_
      refine lv_topi (fun x_1 ex_1 => ?_)
      have nx_1 : x_1 = nI (10 * n) := ex_1.trans ((congr (congrArg (fun u v : Int32 => u * v) (rfl : (10 : Int32) = nI 10)) rfl).trans (pk_mul _ _))
      refine lv_icmp_ge (tgt := 39) hx hb dX2_openDisputes_12 (by decide) (fun c_2 => ?_) (fun c_2 => ?_)
      · have nc_2 : 10 * n ≤ i := (wy_ge ei_i nx_1 (by first | omega | exact hsN _ _ | exact hdN _ _ | exact Nat.lt_of_le_of_lt (cb_le _ _) (by omega)) (by first | omega | exact hsN _ _ | exact hdN _ _ | exact Nat.lt_of_le_of_lt (cb_le _ _) (by omega))).mp c_2
        obtain rfl : 10 * n = i := by omega
        refine lv_aload_n hx hb dX2_openDisputes_39 rfl (lv_at hl 2 rfl) ?_
        refine lv_iload_n hx hb dX2_openDisputes_40 rfl (lv_at hl 1 rfl) ?_
        refine wy_call (va_runV (As := [.int a_s]) (rest := []) ⟨hx, hb, hml, hown, hts⟩ (m_X2_tells l hq (a_s)) (cwV 1 hts gX2_openDisputes_X2_tells rfl rfl rfl (by decide +kernel) ⟨Nat.le_of_ble_eq_true rfl, Nat.le_of_ble_eq_true rfl⟩) (wy_pVW hK hw hq.1 rfl) rfl rfl hl.1 rfl (lv_room (Nat.le_of_ble_eq_true rfl)) dX2_openDisputes_41 ⟨Nat.le_of_ble_eq_true rfl, Nat.le_of_ble_eq_true rfl⟩) hw hA (fun rw_3 Lw_3 fw_3 H locs hpost hw => ?_)
        obtain ⟨er_3, eL_3, hq⟩ := hpost
        subst er_3
        obtain rfl := eL_3.symm
        exact wy_iW hx hb hr hlocks dX2_openDisputes_44 hw (Nat.le_of_ble_eq_true rfl) (Nat.le_of_ble_eq_true rfl) ⟨by rw [ha_s, opd_flat], rfl, g0, g1, g2, g3, g4, g5, g6, g7, g8, g9, hq, hm⟩
      · have nc_2 : ¬ (10 * n ≤ i) := fun z => c_2 ((wy_ge ei_i nx_1 (by first | omega | exact hsN _ _ | exact hdN _ _ | exact Nat.lt_of_le_of_lt (cb_le _ _) (by omega)) (by first | omega | exact hsN _ _ | exact hdN _ _ | exact Nat.lt_of_le_of_lt (cb_le _ _) (by omega))).mpr z)
        exact absurd nc_2 (by omega)
    | succ d ih_d =>
      intro i hd_i xi_i ei_i a_s ha_s H locs fc hw hq ls hl
      refine lv_iload_n hx hb dX2_openDisputes_4 rfl (lv_at hl 0 rfl) ?_
      refine lv_bipush (v := 10) hx hb dX2_openDisputes_5 (by decide) ?_
      refine lv_aload_n hx hb dX2_openDisputes_7 rfl (lv_at hl 2 rfl) ?_
      refine wy_get (ci := 3) (v := .int (nI n)) (C := RX2) (T := TX2) (N := 15) hx hb hts hinX2 hown hK hw.1 hq.1 rfl 2 (by decide) (hts (.fieldLink RX2 51 "WheelpayModel" "rides" "I") (by decide +kernel)) (fun _ h9 => h9) rfl dX2_openDisputes_8 ?_
      refine lv_imul hx hb dX2_openDisputes_11 ?_
      refine lv_topi (fun x_4 ex_4 => ?_)
      have nx_4 : x_4 = nI (10 * n) := ex_4.trans ((congr (congrArg (fun u v : Int32 => u * v) (rfl : (10 : Int32) = nI 10)) rfl).trans (pk_mul _ _))
      refine lv_icmp_ge (tgt := 39) hx hb dX2_openDisputes_12 (by decide) (fun c_5 => ?_) (fun c_5 => ?_)
      · have nc_5 : 10 * n ≤ i := (wy_ge ei_i nx_4 (by first | omega | exact hsN _ _ | exact hdN _ _ | exact Nat.lt_of_le_of_lt (cb_le _ _) (by omega)) (by first | omega | exact hsN _ _ | exact hdN _ _ | exact Nat.lt_of_le_of_lt (cb_le _ _) (by omega))).mp c_5
        exact absurd nc_5 (by omega)
      · have nc_5 : ¬ (10 * n ≤ i) := fun z => c_5 ((wy_ge ei_i nx_4 (by first | omega | exact hsN _ _ | exact hdN _ _ | exact Nat.lt_of_le_of_lt (cb_le _ _) (by omega)) (by first | omega | exact hsN _ _ | exact hdN _ _ | exact Nat.lt_of_le_of_lt (cb_le _ _) (by omega))).mpr z)
        refine lv_iload_n hx hb dX2_openDisputes_15 rfl (lv_at hl 1 rfl) ?_
        refine lv_aload_n hx hb dX2_openDisputes_16 rfl (lv_at hl 2 rfl) ?_
        refine wy_get (ci := 3) (v := .ref (ma 7)) (C := RX2) (T := TX2) (N := 15) hx hb hts hinX2 hown hK hw.1 hq.1 rfl 10 (by decide) (hts (.fieldLink RX2 39 "WheelpayModel" "dispute" "[I") (by decide +kernel)) (fun _ h9 => h9) rfl dX2_openDisputes_17 ?_
        refine lv_iload_n hx hb dX2_openDisputes_20 rfl (lv_at hl 0 rfl) ?_
        refine wy_iald hx hb hK hw.1 hq.2.2.2.2.2.2.2.2.1 (i) ei_i (by omega) (by omega) dX2_openDisputes_21 ?_
        rw [show g7 (i) = nI (dpN (rr (i / 10)) (i % 10)) from (wm_at7 hm (by omega))]
        refine lv_iconst (v := 1) hx hb dX2_openDisputes_22 (by decide) ?_
        refine lv_icmp_ne (tgt := 30) hx hb dX2_openDisputes_23 (by decide) (fun c_6 => ?_) (fun c_6 => ?_)
        · have nc_6 : ¬ (dpN (rr (i / 10)) (i % 10) = 1) := fun z => c_6 ((wy_eq rfl (rfl : (1 : Int32) = nI 1) (by first | omega | exact hsN _ _ | exact hdN _ _ | exact Nat.lt_of_le_of_lt (cb_le _ _) (by omega)) (by decide)).mpr z)
          refine lv_iconst (v := 0) hx hb dX2_openDisputes_30 (by decide) ?_
          refine lv_iadd hx hb dX2_openDisputes_31 ?_
          refine lv_topi (fun x_7 ex_7 => ?_)
          have nx_7 : x_7 = nI (cb (fun i => decide (dpN (rr (i / 10)) (i % 10) = 1)) i + 0) := ex_7.trans ((congr (congrArg (fun u v : Int32 => u + v) ha_s) (rfl : (0 : Int32) = nI 0)).trans (nI_add _ _))
          refine lv_istore_n (lv' := [(1, .int x_7), (2, .int xi_i), (0, .ref om)]) hx hb dX2_openDisputes_32 rfl hl (by decide) rfl (fun ls hl => ?_)
          obtain ⟨x_8, ex_8⟩ : ∃ y : Int32, y = xi_i + 1 := ⟨_, rfl⟩
          have nx_8 : x_8 = nI (i + 1) := by rw [ex_8, ei_i, nI_1]
          refine lv_iinc (v := x_8) (lv' := [(2, .int x_8), (1, .int x_7), (0, .ref om)]) hx hb dX2_openDisputes_33 hl (k := 1) rfl (by rw [ex_8]; rfl) (by decide) rfl (fun ls hl => ?_)
          refine lv_goto (tgt := 4) hx hb dX2_openDisputes_36 (by decide) ?_
          exact ih_d (i + 1) (by omega) _ nx_8 _ (by rw [show cb (fun i => decide (dpN (rr (i / 10)) (i % 10) = 1)) (i + 1) = cb (fun i => decide (dpN (rr (i / 10)) (i % 10) = 1)) i by simp [cb, nc_6]]; exact nx_7) _ _ _ hw hq ls (lv_sub hl [0, 1, 2] rfl)
        · have nc_6 : dpN (rr (i / 10)) (i % 10) = 1 := (wy_eq rfl (rfl : (1 : Int32) = nI 1) (by first | omega | exact hsN _ _ | exact hdN _ _ | exact Nat.lt_of_le_of_lt (cb_le _ _) (by omega)) (by decide)).mp c_6
          refine lv_iconst (v := 1) hx hb dX2_openDisputes_26 (by decide) ?_
          refine lv_goto (tgt := 31) hx hb dX2_openDisputes_27 (by decide) ?_
          refine lv_iadd hx hb dX2_openDisputes_31 ?_
          refine lv_topi (fun x_9 ex_9 => ?_)
          have nx_9 : x_9 = nI (cb (fun i => decide (dpN (rr (i / 10)) (i % 10) = 1)) i + 1) := ex_9.trans ((congr (congrArg (fun u v : Int32 => u + v) ha_s) (rfl : (1 : Int32) = nI 1)).trans (nI_add _ _))
          refine lv_istore_n (lv' := [(1, .int x_9), (2, .int xi_i), (0, .ref om)]) hx hb dX2_openDisputes_32 rfl hl (by decide) rfl (fun ls hl => ?_)
          obtain ⟨x_10, ex_10⟩ : ∃ y : Int32, y = xi_i + 1 := ⟨_, rfl⟩
          have nx_10 : x_10 = nI (i + 1) := by rw [ex_10, ei_i, nI_1]
          refine lv_iinc (v := x_10) (lv' := [(2, .int x_10), (1, .int x_9), (0, .ref om)]) hx hb dX2_openDisputes_33 hl (k := 1) rfl (by rw [ex_10]; rfl) (by decide) rfl (fun ls hl => ?_)
          refine lv_goto (tgt := 4) hx hb dX2_openDisputes_36 (by decide) ?_
          exact ih_d (i + 1) (by omega) _ nx_10 _ (by rw [show cb (fun i => decide (dpN (rr (i / 10)) (i % 10) = 1)) (i + 1) = cb (fun i => decide (dpN (rr (i / 10)) (i % 10) = 1)) i + 1 by simp [cb, nc_6]]; exact nx_9) _ _ _ hw hq ls (lv_sub hl [0, 1, 2] rfl)
  exact KK (10 * n) 0 (by omega) _ rfl _ rfl _ _ _ hw hq ls (lv_sub hl [0, 1, 2] rfl)
set_option maxHeartbeats 4000000 in
set_option maxRecDepth 100000 in
theorem m_X2_house (l : Launch) {G : wy_G} {L : List Nat} {f : Nat → va_E} {sz : Nat} {om : Nat} {ma : Nat → Nat} {n : Nat} {km mn : Int32} {wk : Nat} {th : Int32} {po : Nat → Int32} {rr : Nat → wr_V} {g0 g1 g2 g3 g4 g5 g6 g7 g8 g9 : Nat → Int32} {t : Nat} (hq : wm_S G L f om ma n km mn wk th g0 g1 g2 g3 g4 g5 g6 g7 g8 g9) (hm : wm_r po rr g0 g1 g2 g3 g4 g5 g6 g7 g8 g9) (hi : ∀ k, k < 40 → wi t (rr k)) (ht1 : t + 1 ≤ 512) : Met l yX2_house wsX2_house ({ frames := 5, cells := 0, slots := 0, locals := 118 } : Room) (va_Pc [.ref om] (wy_W G L f sz)) (wy_Q G (wm_p G L om ma n km mn wk po rr 0 (some (.int (houS rr n wk)))) (wy_A L sz)) 0 0 (wy_A L sz) := by
  refine Met.ofW (cc := cX2_house) (maxL := 3) (ret := (some .int)) (by decide) rfl ?_
  intro p e s m args below meth c s₁ B hml hv
  obtain ⟨rfl, hv⟩ := hv
  obtain ⟨hw, hK, hA⟩ := wy_start hv
  have hsz := hv.1
  subst hsz
  have hx := B.exec
  have hb := B.bytes
  have hr := B.returns
  have hts := atoms_spec (ws := wsX2_house) B.pre
  have hown : s.vm.findClass RX2 = some m.cls := findClass_of_methodNamed B.named
  have hlocks := B.notSynchronized
  have hinX2 : ∀ w ∈ wsX20, w ∈ wsX2_house := by decide +kernel
  have hn : n ≤ 40 := hq.2.2.2.2.2.2.2.2.2.2.2.2.2.1
  have hwk : wk ≤ 20 := hq.2.2.2.2.2.2.2.2.2.2.2.2.2.2
  have hsN : ∀ v r, stN v r < 2 ^ 31 := fun v r => by unfold stN; split <;> (try split) <;> (try split) <;> decide
  have hdN : ∀ v r, dpN v r < 2 ^ 31 := fun v r => by unfold dpN; split <;> (try split) <;> (try split) <;> decide
  have hd1 := hq.2.2.2.2.2.2.2.2.2.2.2.1
  have hd2 := hq.2.2.2.2.2.2.2.2.2.2.2.2.1
  have ht : t ≤ 512 := by omega
  have hl := lv_entry ([.ref om]) (n := 3) (Nat.le_of_ble_eq_true rfl)
  rw [lg_entry_eq]
  generalize (lg_sl ([.ref om]) ++ List.replicate (3 - (lg_sl ([.ref om])).length) Slot.unset).toArray = ls at hl ⊢
  have hl : lv_has ls 3 [(0, .ref om)] := hl
  refine lv_iconst (v := 0) hx hb dX2_house_0 (by decide) ?_
  refine lv_istore_n (lv' := [(1, .int 0), (0, .ref om)]) hx hb dX2_house_1 rfl hl (by decide) rfl (fun ls hl => ?_)
  refine lv_iconst (v := 0) hx hb dX2_house_2 (by decide) ?_
  refine lv_istore_n (lv' := [(2, .int 0), (1, .int 0), (0, .ref om)]) hx hb dX2_house_3 rfl hl (by decide) rfl (fun ls hl => ?_)
  have KK : ∀ (d i : Nat), i + d = 10 → ∀ (xi_i : Int32), xi_i = nI (i) → ∀ (a_s : Int32), a_s = bx_sum (spdS rr n) i → ∀ (H : Heap) (locs : List Loc) (fc : Nat → va_E), wy_H G L fc (wy_A L s.heap.size) s.heap H locs → wm_S G L fc om ma n km mn wk th g0 g1 g2 g3 g4 g5 g6 g7 g8 g9 → ∀ ls : Array Slot, lv_has ls 3 [(2, .int xi_i), (1, .int a_s), (0, .ref om)] → W p l e (headSpec wsX2_house ({ frames := 5, cells := 0, slots := 0, locals := 118 } : Room)).room s m ([.ref om] : List Value).toArray below meth c H locs 0 0 (MQ below (wy_Q G (wm_p G L om ma n km mn wk po rr 0 (some (.int (houS rr n wk)))) (wy_A L s.heap.size)) ([.ref om] : List Value).toArray s 0 0 (wy_A L s.heap.size)) (F0 m 4 ls []) := by
    intro d
    induction d with
    | zero =>
      intro i hd_i xi_i ei_i a_s ha_s H locs fc hw hq ls hl
      refine lv_iload_n hx hb dX2_house_4 rfl (lv_at hl 0 rfl) ?_
      refine lv_bipush (v := 10) hx hb dX2_house_5 (by decide) ?_
      refine lv_icmp_ge (tgt := 25) hx hb dX2_house_7 (by decide) (fun c_1 => ?_) (fun c_1 => ?_)
      · have nc_1 : 10 ≤ i := (wy_ge ei_i (rfl : (10 : Int32) = nI 10) (by first | omega | exact hsN _ _ | exact hdN _ _ | exact Nat.lt_of_le_of_lt (cb_le _ _) (by omega)) (by decide)).mp c_1
        obtain rfl : 10 = i := by omega
        refine lv_iconst (v := 0) hx hb dX2_house_25 (by decide) ?_
        refine lv_istore_n (lv' := [(2, .int 0), (1, .int a_s), (0, .ref om)]) hx hb dX2_house_26 rfl hl (by decide) rfl (fun ls hl => ?_)
        have KK2 : ∀ (d2 j : Nat), j + d2 = 5 → ∀ (xi_j : Int32), xi_j = nI (j) → ∀ (b_s : Int32), b_s = hrdS rr n - bx_sum (fun d => payB rr n (nI d) (wk + 1)) j → ∀ (H : Heap) (locs : List Loc) (fc : Nat → va_E), wy_H G L fc (wy_A L s.heap.size) s.heap H locs → wm_S G L fc om ma n km mn wk th g0 g1 g2 g3 g4 g5 g6 g7 g8 g9 → ∀ ls : Array Slot, lv_has ls 3 [(2, .int xi_j), (1, .int b_s), (0, .ref om)] → W p l e (headSpec wsX2_house ({ frames := 5, cells := 0, slots := 0, locals := 118 } : Room)).room s m ([.ref om] : List Value).toArray below meth c H locs 0 0 (MQ below (wy_Q G (wm_p G L om ma n km mn wk po rr 0 (some (.int (houS rr n wk)))) (wy_A L s.heap.size)) ([.ref om] : List Value).toArray s 0 0 (wy_A L s.heap.size)) (F0 m 27 ls []) := by
          intro d2
          induction d2 with
          | zero =>
            intro j hd_j xi_j ei_j b_s hb_s H locs fc hw hq ls hl
            refine lv_iload_n hx hb dX2_house_27 rfl (lv_at hl 0 rfl) ?_
            refine lv_iconst (v := 5) hx hb dX2_house_28 (by decide) ?_
            refine lv_icmp_ge (tgt := 59) hx hb dX2_house_29 (by decide) (fun c_2 => ?_) (fun c_2 => ?_)
            · have nc_2 : 5 ≤ j := (wy_ge ei_j (rfl : (5 : Int32) = nI 5) (by first | omega | exact hsN _ _ | exact hdN _ _ | exact Nat.lt_of_le_of_lt (cb_le _ _) (by omega)) (by decide)).mp c_2
              obtain rfl : 5 = j := by omega
              refine lv_aload_n hx hb dX2_house_59 rfl (lv_at hl 2 rfl) ?_
              refine lv_iload_n hx hb dX2_house_60 rfl (lv_at hl 1 rfl) ?_
              refine wy_call (va_runV (As := [.int b_s]) (rest := []) ⟨hx, hb, hml, hown, hts⟩ (m_X2_tells l hq (b_s)) (cwV 1 hts gX2_house_X2_tells rfl rfl rfl (by decide +kernel) ⟨Nat.le_of_ble_eq_true rfl, Nat.le_of_ble_eq_true rfl⟩) (wy_pVW hK hw hq.1 rfl) rfl rfl hl.1 rfl (lv_room (Nat.le_of_ble_eq_true rfl)) dX2_house_61 ⟨Nat.le_of_ble_eq_true rfl, Nat.le_of_ble_eq_true rfl⟩) hw hA (fun rw_3 Lw_3 fw_3 H locs hpost hw => ?_)
              obtain ⟨er_3, eL_3, hq⟩ := hpost
              subst er_3
              obtain rfl := eL_3.symm
              exact wy_iW hx hb hr hlocks dX2_house_64 hw (Nat.le_of_ble_eq_true rfl) (Nat.le_of_ble_eq_true rfl) ⟨by rw [hb_s]; rfl, rfl, g0, g1, g2, g3, g4, g5, g6, g7, g8, g9, hq, hm⟩
            · have nc_2 : ¬ (5 ≤ j) := fun z => c_2 ((wy_ge ei_j (rfl : (5 : Int32) = nI 5) (by first | omega | exact hsN _ _ | exact hdN _ _ | exact Nat.lt_of_le_of_lt (cb_le _ _) (by omega)) (by decide)).mpr z)
              exact absurd nc_2 (by omega)
          | succ d2 ih_d2 =>
            intro j hd_j xi_j ei_j b_s hb_s H locs fc hw hq ls hl
            refine lv_iload_n hx hb dX2_house_27 rfl (lv_at hl 0 rfl) ?_
            refine lv_iconst (v := 5) hx hb dX2_house_28 (by decide) ?_
            refine lv_icmp_ge (tgt := 59) hx hb dX2_house_29 (by decide) (fun c_4 => ?_) (fun c_4 => ?_)
            · have nc_4 : 5 ≤ j := (wy_ge ei_j (rfl : (5 : Int32) = nI 5) (by first | omega | exact hsN _ _ | exact hdN _ _ | exact Nat.lt_of_le_of_lt (cb_le _ _) (by omega)) (by decide)).mp c_4
              exact absurd nc_4 (by omega)
            · have nc_4 : ¬ (5 ≤ j) := fun z => c_4 ((wy_ge ei_j (rfl : (5 : Int32) = nI 5) (by first | omega | exact hsN _ _ | exact hdN _ _ | exact Nat.lt_of_le_of_lt (cb_le _ _) (by omega)) (by decide)).mpr z)
              refine lv_iload_n hx hb dX2_house_32 rfl (lv_at hl 1 rfl) ?_
              refine lv_aload_n hx hb dX2_house_33 rfl (lv_at hl 2 rfl) ?_
              refine lv_iload_n hx hb dX2_house_34 rfl (lv_at hl 0 rfl) ?_
              refine lv_aload_n hx hb dX2_house_35 rfl (lv_at hl 2 rfl) ?_
              refine wy_get (ci := 3) (v := .int (nI wk)) (C := RX2) (T := TX2) (N := 15) hx hb hts hinX2 hown hK hw.1 hq.1 rfl 12 (by decide) (hts (.fieldLink RX2 71 "WheelpayModel" "week" "I") (by decide +kernel)) (fun _ h9 => h9) rfl dX2_house_36 ?_
              refine lv_iconst (v := 1) hx hb dX2_house_39 (by decide) ?_
              refine lv_iadd hx hb dX2_house_40 ?_
              refine lv_topi (fun x_5 ex_5 => ?_)
              have nx_5 : x_5 = nI (wk + 1) := ex_5.trans ((congr (congrArg (fun u v : Int32 => u + v) rfl) (rfl : (1 : Int32) = nI 1)).trans (nI_add _ _))
              refine vp_callSi (W.runV (As := [.int xi_j, .int x_5]) (rest := [.int b_s]) ⟨hx, hb, hml, hown, hts⟩ (m_X2_owes l hq hm hi ht (xi_j) (x_5) (j) (wk + 1) (by omega) (by omega) ei_j nx_5) (cwV 2 hts gX2_house_X2_owes rfl rfl rfl (by decide +kernel) ⟨Nat.le_of_ble_eq_true rfl, Nat.le_of_ble_eq_true rfl⟩) (wy_pVR hK hw.1 hq.1 rfl) rfl rfl hl.1 rfl (lv_room (Nat.le_of_ble_eq_true rfl)) dX2_house_41 ⟨Nat.le_of_ble_eq_true rfl, Nat.le_of_ble_eq_true rfl⟩) (fun r_6 er_6 => ?_)
              refine lv_aload_n hx hb dX2_house_44 rfl (lv_at hl 2 rfl) ?_
              refine wy_get (ci := 3) (v := .ref (ma 9)) (C := RX2) (T := TX2) (N := 15) hx hb hts hinX2 hown hK hw.1 hq.1 rfl 13 (by decide) (hts (.fieldLink RX2 45 "WheelpayModel" "paid" "[I") (by decide +kernel)) (fun _ h9 => h9) rfl dX2_house_45 ?_
              refine lv_iload_n hx hb dX2_house_48 rfl (lv_at hl 0 rfl) ?_
              refine wy_iald hx hb hK hw.1 hq.2.2.2.2.2.2.2.2.2.2.1 (j) ei_j (by omega) (by omega) dX2_house_49 ?_
              rw [show g9 (j) = po j from hm.2 (j) (by omega)]
              refine lv_iadd hx hb dX2_house_50 ?_
              refine lv_topi (fun x_7 ex_7 => ?_)
              refine lv_isub hx hb dX2_house_51 ?_
              refine lv_topi (fun x_8 ex_8 => ?_)
              refine lv_istore_n (lv' := [(1, .int x_8), (2, .int xi_j), (0, .ref om)]) hx hb dX2_house_52 rfl hl (by decide) rfl (fun ls hl => ?_)
              obtain ⟨x_9, ex_9⟩ : ∃ y : Int32, y = xi_j + 1 := ⟨_, rfl⟩
              have nx_9 : x_9 = nI (j + 1) := by rw [ex_9, ei_j, nI_1]
              refine lv_iinc (v := x_9) (lv' := [(2, .int x_9), (1, .int x_8), (0, .ref om)]) hx hb dX2_house_53 hl (k := 1) rfl (by rw [ex_9]; rfl) (by decide) rfl (fun ls hl => ?_)
              refine lv_goto (tgt := 27) hx hb dX2_house_56 (by decide) ?_
              exact ih_d2 (j + 1) (by omega) _ nx_9 _ (by simp only [hb_s, ex_5, er_6, ex_7, ex_8, ex_9, bx_sum, ei_j]; rw [Int32.sub_add_cancel]; exact wy_subadd _ _ _) _ _ _ hw hq ls (lv_sub hl [0, 1, 2] rfl)
        exact KK2 (5) 0 (by omega) _ rfl _ (by rw [ha_s, spd_hrd]; exact (Int32.sub_zero _).symm) _ _ _ hw hq ls (lv_sub hl [0, 1, 2] rfl)
      · have nc_1 : ¬ (10 ≤ i) := fun z => c_1 ((wy_ge ei_i (rfl : (10 : Int32) = nI 10) (by first | omega | exact hsN _ _ | exact hdN _ _ | exact Nat.lt_of_le_of_lt (cb_le _ _) (by omega)) (by decide)).mpr z)
        exact absurd nc_1 (by omega)
    | succ d ih_d =>
      intro i hd_i xi_i ei_i a_s ha_s H locs fc hw hq ls hl
      refine lv_iload_n hx hb dX2_house_4 rfl (lv_at hl 0 rfl) ?_
      refine lv_bipush (v := 10) hx hb dX2_house_5 (by decide) ?_
      refine lv_icmp_ge (tgt := 25) hx hb dX2_house_7 (by decide) (fun c_10 => ?_) (fun c_10 => ?_)
      · have nc_10 : 10 ≤ i := (wy_ge ei_i (rfl : (10 : Int32) = nI 10) (by first | omega | exact hsN _ _ | exact hdN _ _ | exact Nat.lt_of_le_of_lt (cb_le _ _) (by omega)) (by decide)).mp c_10
        exact absurd nc_10 (by omega)
      · have nc_10 : ¬ (10 ≤ i) := fun z => c_10 ((wy_ge ei_i (rfl : (10 : Int32) = nI 10) (by first | omega | exact hsN _ _ | exact hdN _ _ | exact Nat.lt_of_le_of_lt (cb_le _ _) (by omega)) (by decide)).mpr z)
        refine lv_iload_n hx hb dX2_house_10 rfl (lv_at hl 1 rfl) ?_
        refine lv_aload_n hx hb dX2_house_11 rfl (lv_at hl 2 rfl) ?_
        refine lv_iload_n hx hb dX2_house_12 rfl (lv_at hl 0 rfl) ?_
        refine lv_iconst (v := 1) hx hb dX2_house_13 (by decide) ?_
        rw [show (1 : Int32) = bI true from rfl]
        refine vp_callSi (W.runV (As := [.int xi_i, .int (bI true)]) (rest := [.int a_s]) ⟨hx, hb, hml, hown, hts⟩ (m_X2_spends l hq hm hi ht (xi_i) (i) (by omega) ei_i true) (cwV 2 hts gX2_house_X2_spends rfl rfl rfl (by decide +kernel) ⟨Nat.le_of_ble_eq_true rfl, Nat.le_of_ble_eq_true rfl⟩) (wy_pVR hK hw.1 hq.1 rfl) rfl rfl hl.1 rfl (lv_room (Nat.le_of_ble_eq_true rfl)) dX2_house_14 ⟨Nat.le_of_ble_eq_true rfl, Nat.le_of_ble_eq_true rfl⟩) (fun r_11 er_11 => ?_)
        refine lv_iadd hx hb dX2_house_17 ?_
        refine lv_topi (fun x_12 ex_12 => ?_)
        refine lv_istore_n (lv' := [(1, .int x_12), (2, .int xi_i), (0, .ref om)]) hx hb dX2_house_18 rfl hl (by decide) rfl (fun ls hl => ?_)
        obtain ⟨x_13, ex_13⟩ : ∃ y : Int32, y = xi_i + 1 := ⟨_, rfl⟩
        have nx_13 : x_13 = nI (i + 1) := by rw [ex_13, ei_i, nI_1]
        refine lv_iinc (v := x_13) (lv' := [(2, .int x_13), (1, .int x_12), (0, .ref om)]) hx hb dX2_house_19 hl (k := 1) rfl (by rw [ex_13]; rfl) (by decide) rfl (fun ls hl => ?_)
        refine lv_goto (tgt := 4) hx hb dX2_house_22 (by decide) ?_
        exact ih_d (i + 1) (by omega) _ nx_13 _ (by simp only [ha_s, er_11, ex_12, ex_13]; rfl) _ _ _ hw hq ls (lv_sub hl [0, 1, 2] rfl)
  exact KK (10) 0 (by omega) _ rfl _ rfl _ _ _ hw hq ls (lv_sub hl [0, 1, 2] rfl)
