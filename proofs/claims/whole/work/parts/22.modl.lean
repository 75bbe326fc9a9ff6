set_option maxHeartbeats 4000000 in
set_option maxRecDepth 100000 in
theorem m_X2_atR (l : Launch) {G : wy_G} {L : List Nat} {f : Nat → va_E} {om : Nat} {ma : Nat → Nat} {n : Nat} {km mn : Int32} {wk : Nat} {th : Int32} {g0 g1 g2 g3 g4 g5 g6 g7 g8 g9 : Nat → Int32} (hq : wm_S G L f om ma n km mn wk th g0 g1 g2 g3 g4 g5 g6 g7 g8 g9) (p1 : Int32) (k : Nat) (hk : k < 40) (e1 : p1 = nI k) (p2 : Int32) (r : Nat) (hr10 : r < 10) (e2 : p2 = nI r) (x0 : Int32) (h5 : g5 (10 * k + r) = x0) : Met l yX2_at wsX2_at ({ frames := 0, cells := 0, slots := 0, locals := 0 } : Room) (va_Pc [.ref om, .int p1, .int p2] (wy_R G L f)) (vp_Si (fun z => z = x0)) 0 0 (fun _ => False) := by
  refine Met.ofW (cc := cX2_at) (maxL := 3) (ret := (some .int)) (by decide) rfl ?_
  intro p e s m args below meth c s₁ B hml hv
  obtain ⟨rfl, hP, hK⟩ := hv
  have hx := B.exec
  have hb := B.bytes
  have hr := B.returns
  have hts := atoms_spec (ws := wsX2_at) B.pre
  have hown : s.vm.findClass RX2 = some m.cls := findClass_of_methodNamed B.named
  have hlocks := B.notSynchronized
  have hinX2 : ∀ w ∈ wsX20, w ∈ wsX2_at := by decide +kernel
  have hn : n ≤ 40 := hq.2.2.2.2.2.2.2.2.2.2.2.2.2.1
  have hwk : wk ≤ 20 := hq.2.2.2.2.2.2.2.2.2.2.2.2.2.2
  have hsN : ∀ v r, stN v r < 2 ^ 31 := fun v r => by unfold stN; split <;> (try split) <;> (try split) <;> decide
  have hdN : ∀ v r, dpN v r < 2 ^ 31 := fun v r => by unfold dpN; split <;> (try split) <;> (try split) <;> decide
  have hl := lv_entry ([.ref om, .int p1, .int p2]) (n := 3) (Nat.le_of_ble_eq_true rfl)
  rw [lg_entry_eq]
  generalize (lg_sl ([.ref om, .int p1, .int p2]) ++ List.replicate (3 - (lg_sl ([.ref om, .int p1, .int p2])).length) Slot.unset).toArray = ls at hl ⊢
  have hl : lv_has ls 3 [(0, .ref om), (1, .int p1), (2, .int p2)] := hl
  refine lv_aload_n hx hb dX2_at_0 rfl (lv_at hl 0 rfl) ?_
  refine wy_get (ci := 3) (v := .ref (ma 5)) (C := RX2) (T := TX2) (N := 15) hx hb hts hinX2 hown hK hP hq.1 rfl 8 (by decide) (hts (.fieldLink RX2 33 "WheelpayModel" "state" "[I") (by decide +kernel)) (fun _ h9 => h9) rfl dX2_at_1 ?_
  refine lv_bipush (v := 10) hx hb dX2_at_4 (by decide) ?_
  refine lv_iload_n hx hb dX2_at_6 rfl (lv_at hl 1 rfl) ?_
  refine lv_imul hx hb dX2_at_7 ?_
  refine lv_topi (fun x_1 ex_1 => ?_)
  have nx_1 : x_1 = nI (10 * k) := ex_1.trans ((congr (congrArg (fun u v : Int32 => u * v) (rfl : (10 : Int32) = nI 10)) e1).trans (pk_mul _ _))
  refine lv_iload_n hx hb dX2_at_8 rfl (lv_at hl 2 rfl) ?_
  refine lv_iadd hx hb dX2_at_9 ?_
  refine lv_topi (fun x_2 ex_2 => ?_)
  have nx_2 : x_2 = nI (10 * k + r) := ex_2.trans ((congr (congrArg (fun u v : Int32 => u + v) nx_1) e2).trans (nI_add _ _))
  refine wy_iald hx hb hK hP hq.2.2.2.2.2.2.1 (10 * k + r) nx_2 (by omega) (by omega) dX2_at_10 ?_
  rw [show g5 (10 * k + r) = x0 from h5]
  exact wy_iR rfl hx hb hr hlocks dX2_at_11
set_option maxHeartbeats 4000000 in
set_option maxRecDepth 100000 in
theorem m_X2_manyR (l : Launch) {G : wy_G} {L : List Nat} {f : Nat → va_E} {om : Nat} {ma : Nat → Nat} {n : Nat} {km mn : Int32} {wk : Nat} {th : Int32} {g0 g1 g2 g3 g4 g5 g6 g7 g8 g9 : Nat → Int32} (hq : wm_S G L f om ma n km mn wk th g0 g1 g2 g3 g4 g5 g6 g7 g8 g9) (p1 : Int32) (k : Nat) (hk : k < 40) (e1 : p1 = nI k) (p2 : Int32) (w : Nat) (hw2 : w < 2 ^ 31) (e2 : p2 = nI w) (sf : Nat → Nat) (hsf : ∀ r, sf r < 2 ^ 31) (h5 : ∀ r, r < 10 → g5 (10 * k + r) = nI (sf r)) : Met l yX2_many wsX2_many ({ frames := 0, cells := 0, slots := 0, locals := 0 } : Room) (va_Pc [.ref om, .int p1, .int p2] (wy_R G L f)) (vp_Si (fun z => z = nI (cb (fun r => decide (sf r = w)) 10))) 0 0 (fun _ => False) := by
  refine Met.ofW (cc := cX2_many) (maxL := 5) (ret := (some .int)) (by decide) rfl ?_
  intro p e s m args below meth c s₁ B hml hv
  obtain ⟨rfl, hP, hK⟩ := hv
  have hx := B.exec
  have hb := B.bytes
  have hr := B.returns
  have hts := atoms_spec (ws := wsX2_many) B.pre
  have hown : s.vm.findClass RX2 = some m.cls := findClass_of_methodNamed B.named
  have hlocks := B.notSynchronized
  have hinX2 : ∀ w ∈ wsX20, w ∈ wsX2_many := by decide +kernel
  have hn : n ≤ 40 := hq.2.2.2.2.2.2.2.2.2.2.2.2.2.1
  have hwk : wk ≤ 20 := hq.2.2.2.2.2.2.2.2.2.2.2.2.2.2
  have hsN : ∀ v r, stN v r < 2 ^ 31 := fun v r => by unfold stN; split <;> (try split) <;> (try split) <;> decide
  have hdN : ∀ v r, dpN v r < 2 ^ 31 := fun v r => by unfold dpN; split <;> (try split) <;> (try split) <;> decide
  have hl := lv_entry ([.ref om, .int p1, .int p2]) (n := 5) (Nat.le_of_ble_eq_true rfl)
  rw [lg_entry_eq]
  generalize (lg_sl ([.ref om, .int p1, .int p2]) ++ List.replicate (5 - (lg_sl ([.ref om, .int p1, .int p2])).length) Slot.unset).toArray = ls at hl ⊢
  have hl : lv_has ls 5 [(0, .ref om), (1, .int p1), (2, .int p2)] := hl
  refine lv_iconst (v := 0) hx hb dX2_many_0 (by decide) ?_
  refine lv_istore_n (lv' := [(3, .int 0), (0, .ref om), (1, .int p1), (2, .int p2)]) hx hb dX2_many_1 rfl hl (by decide) rfl (fun ls hl => ?_)
  refine lv_iconst (v := 0) hx hb dX2_many_2 (by decide) ?_
  refine lv_istore (lv' := [(4, .int 0), (3, .int 0), (0, .ref om), (1, .int p1), (2, .int p2)]) hx hb dX2_many_3 hl (by decide) rfl (fun ls hl => ?_)
  have KK : ∀ (d i : Nat), i + d = 10 → ∀ (xi_i : Int32), xi_i = nI (i) → ∀ (a_s : Int32), a_s = nI (cb (fun r => decide (sf r = w)) i) → ∀ ls : Array Slot, lv_has ls 5 [(4, .int xi_i), (3, .int a_s), (0, .ref om), (1, .int p1), (2, .int p2)] → W p l e (headSpec wsX2_many ({ frames := 0, cells := 0, slots := 0, locals := 0 } : Room)).room s m ([.ref om, .int p1, .int p2] : List Value).toArray below meth c s.heap [] 0 0 (MQ below (vp_Si (fun z => z = nI (cb (fun r => decide (sf r = w)) 10))) ([.ref om, .int p1, .int p2] : List Value).toArray s 0 0 (fun _ => False)) (F0 m 5 ls []) := by
    intro d
    induction d with
    | zero =>
      intro i hd_i xi_i ei_i a_s ha_s ls hl
      refine lv_iload hx hb dX2_many_5 (lv_at hl 0 rfl) ?_
      refine lv_bipush (v := 10) hx hb dX2_many_7 (by decide) ?_
      refine lv_icmp_ge (tgt := 42) hx hb dX2_many_9 (by decide) (fun c_1 => ?_) (fun c_1 => ?_)
      · have nc_1 : 10 ≤ i := (wy_ge ei_i (rfl : (10 : Int32) = nI 10) (by first | omega | exact hsf _) (by decide)).mp c_1
        obtain rfl : 10 = i := by omega
        refine lv_iload_n hx hb dX2_many_42 rfl (lv_at hl 1 rfl) ?_
        exact wy_iR ha_s hx hb hr hlocks dX2_many_43
      · have nc_1 : ¬ (10 ≤ i) := fun z => c_1 ((wy_ge ei_i (rfl : (10 : Int32) = nI 10) (by first | omega | exact hsf _) (by decide)).mpr z)
        exact absurd nc_1 (by omega)
    | succ d ih_d =>
      intro i hd_i xi_i ei_i a_s ha_s ls hl
      refine lv_iload hx hb dX2_many_5 (lv_at hl 0 rfl) ?_
      refine lv_bipush (v := 10) hx hb dX2_many_7 (by decide) ?_
      refine lv_icmp_ge (tgt := 42) hx hb dX2_many_9 (by decide) (fun c_2 => ?_) (fun c_2 => ?_)
      · have nc_2 : 10 ≤ i := (wy_ge ei_i (rfl : (10 : Int32) = nI 10) (by first | omega | exact hsf _) (by decide)).mp c_2
        exact absurd nc_2 (by omega)
      · have nc_2 : ¬ (10 ≤ i) := fun z => c_2 ((wy_ge ei_i (rfl : (10 : Int32) = nI 10) (by first | omega | exact hsf _) (by decide)).mpr z)
        refine lv_iload_n hx hb dX2_many_12 rfl (lv_at hl 1 rfl) ?_
        refine lv_aload_n hx hb dX2_many_13 rfl (lv_at hl 2 rfl) ?_
        refine wy_get (ci := 3) (v := .ref (ma 5)) (C := RX2) (T := TX2) (N := 15) hx hb hts hinX2 hown hK hP hq.1 rfl 8 (by decide) (hts (.fieldLink RX2 33 "WheelpayModel" "state" "[I") (by decide +kernel)) (fun _ h9 => h9) rfl dX2_many_14 ?_
        refine lv_bipush (v := 10) hx hb dX2_many_17 (by decide) ?_
        refine lv_iload_n hx hb dX2_many_19 rfl (lv_at hl 3 rfl) ?_
        refine lv_imul hx hb dX2_many_20 ?_
        refine lv_topi (fun x_3 ex_3 => ?_)
        have nx_3 : x_3 = nI (10 * k) := ex_3.trans ((congr (congrArg (fun u v : Int32 => u * v) (rfl : (10 : Int32) = nI 10)) e1).trans (pk_mul _ _))
        refine lv_iload hx hb dX2_many_21 (lv_at hl 0 rfl) ?_
        refine lv_iadd hx hb dX2_many_23 ?_
        refine lv_topi (fun x_4 ex_4 => ?_)
        have nx_4 : x_4 = nI (10 * k + i) := ex_4.trans ((congr (congrArg (fun u v : Int32 => u + v) nx_3) ei_i).trans (nI_add _ _))
        refine wy_iald hx hb hK hP hq.2.2.2.2.2.2.1 (10 * k + i) nx_4 (by omega) (by omega) dX2_many_24 ?_
        rw [show g5 (10 * k + i) = nI (sf i) from h5 i (by omega)]
        refine lv_iload_n hx hb dX2_many_25 rfl (lv_at hl 4 rfl) ?_
        refine lv_icmp_ne (tgt := 33) hx hb dX2_many_26 (by decide) (fun c_5 => ?_) (fun c_5 => ?_)
        · have nc_5 : ¬ (sf i = w) := fun z => c_5 ((wy_eq rfl e2 (by first | omega | exact hsf _) (by first | omega | exact hsf _)).mpr z)
          refine lv_iconst (v := 0) hx hb dX2_many_33 (by decide) ?_
          refine lv_iadd hx hb dX2_many_34 ?_
          refine lv_topi (fun x_6 ex_6 => ?_)
          have nx_6 : x_6 = nI (cb (fun r => decide (sf r = w)) i + 0) := ex_6.trans ((congr (congrArg (fun u v : Int32 => u + v) ha_s) (rfl : (0 : Int32) = nI 0)).trans (nI_add _ _))
          refine lv_istore_n (lv' := [(3, .int x_6), (4, .int xi_i), (0, .ref om), (1, .int p1), (2, .int p2)]) hx hb dX2_many_35 rfl hl (by decide) rfl (fun ls hl => ?_)
          obtain ⟨x_7, ex_7⟩ : ∃ y : Int32, y = xi_i + 1 := ⟨_, rfl⟩
          have nx_7 : x_7 = nI (i + 1) := by rw [ex_7, ei_i, nI_1]
          refine lv_iinc (v := x_7) (lv' := [(4, .int x_7), (3, .int x_6), (0, .ref om), (1, .int p1), (2, .int p2)]) hx hb dX2_many_36 hl (k := 1) rfl (by rw [ex_7]; rfl) (by decide) rfl (fun ls hl => ?_)
          refine lv_goto (tgt := 5) hx hb dX2_many_39 (by decide) ?_
          exact ih_d (i + 1) (by omega) _ nx_7 _ (by rw [show cb (fun r => decide (sf r = w)) (i + 1) = cb (fun r => decide (sf r = w)) i by simp [cb, nc_5]]; exact nx_6) ls (lv_sub hl [0, 1, 2, 3, 4] rfl)
        · have nc_5 : sf i = w := (wy_eq rfl e2 (by first | omega | exact hsf _) (by first | omega | exact hsf _)).mp c_5
          refine lv_iconst (v := 1) hx hb dX2_many_29 (by decide) ?_
          refine lv_goto (tgt := 34) hx hb dX2_many_30 (by decide) ?_
          refine lv_iadd hx hb dX2_many_34 ?_
          refine lv_topi (fun x_8 ex_8 => ?_)
          have nx_8 : x_8 = nI (cb (fun r => decide (sf r = w)) i + 1) := ex_8.trans ((congr (congrArg (fun u v : Int32 => u + v) ha_s) (rfl : (1 : Int32) = nI 1)).trans (nI_add _ _))
          refine lv_istore_n (lv' := [(3, .int x_8), (4, .int xi_i), (0, .ref om), (1, .int p1), (2, .int p2)]) hx hb dX2_many_35 rfl hl (by decide) rfl (fun ls hl => ?_)
          obtain ⟨x_9, ex_9⟩ : ∃ y : Int32, y = xi_i + 1 := ⟨_, rfl⟩
          have nx_9 : x_9 = nI (i + 1) := by rw [ex_9, ei_i, nI_1]
          refine lv_iinc (v := x_9) (lv' := [(4, .int x_9), (3, .int x_8), (0, .ref om), (1, .int p1), (2, .int p2)]) hx hb dX2_many_36 hl (k := 1) rfl (by rw [ex_9]; rfl) (by decide) rfl (fun ls hl => ?_)
          refine lv_goto (tgt := 5) hx hb dX2_many_39 (by decide) ?_
          exact ih_d (i + 1) (by omega) _ nx_9 _ (by rw [show cb (fun r => decide (sf r = w)) (i + 1) = cb (fun r => decide (sf r = w)) i + 1 by simp [cb, nc_5]]; exact nx_8) ls (lv_sub hl [0, 1, 2, 3, 4] rfl)
  exact KK (10) 0 (by omega) _ rfl _ rfl ls (lv_sub hl [0, 1, 2, 3, 4] rfl)
set_option maxHeartbeats 4000000 in
set_option maxRecDepth 100000 in
theorem m_X2_finish (l : Launch) {G : wy_G} {L : List Nat} {f : Nat → va_E} {sz : Nat} {om : Nat} {ma : Nat → Nat} {n : Nat} {km mn : Int32} {wk : Nat} {th : Int32} {po : Nat → Int32} {rr : Nat → wr_V} {g0 g1 g2 g3 g4 g5 g6 g7 g8 g9 : Nat → Int32} {t : Nat} (hq : wm_S G L f om ma n km mn wk th g0 g1 g2 g3 g4 g5 g6 g7 g8 g9) (hm : wm_r po rr g0 g1 g2 g3 g4 g5 g6 g7 g8 g9) (hi : ∀ k, k < 40 → wi t (rr k)) (ht1 : t + 1 ≤ 512) (p1 : Int32) : Met l yX2_finish wsX2_finish ({ frames := 2, cells := 0, slots := 0, locals := 43 } : Room) (va_Pc [.ref om, .int p1] (wy_W G L f sz)) (wy_Q G (wm_p G L om ma (if fnC n p1 (rfi (rr (ix p1))) = 0 then n else n) (if fnC n p1 (rfi (rr (ix p1))) = 0 then km else km) (if fnC n p1 (rfi (rr (ix p1))) = 0 then mn else mn) (if fnC n p1 (rfi (rr (ix p1))) = 0 then wk else wk) (if fnC n p1 (rfi (rr (ix p1))) = 0 then po else po) (if fnC n p1 (rfi (rr (ix p1))) = 0 then va_up rr (ix p1) (vEnd (rr (ix p1))) else rr) (fnC n p1 (rfi (rr (ix p1)))) (some (.int (if fnC n p1 (rfi (rr (ix p1))) = 0 then bx_sum (endc (rbk (rr (ix p1))) (rch (rr (ix p1))) 10) 10 else 0)))) (wy_A L sz)) 0 0 (wy_A L sz) := by
  refine Met.ofW (cc := cX2_finish) (maxL := 4) (ret := (some .int)) (by decide) rfl ?_
  intro p e s m args below meth c s₁ B hml hv
  obtain ⟨rfl, hv⟩ := hv
  obtain ⟨hw, hK, hA⟩ := wy_start hv
  have hsz := hv.1
  subst hsz
  have hx := B.exec
  have hb := B.bytes
  have hr := B.returns
  have hts := atoms_spec (ws := wsX2_finish) B.pre
  have hown : s.vm.findClass RX2 = some m.cls := findClass_of_methodNamed B.named
  have hlocks := B.notSynchronized
  have hinX2 : ∀ w ∈ wsX20, w ∈ wsX2_finish := by decide +kernel
  have hn : n ≤ 40 := hq.2.2.2.2.2.2.2.2.2.2.2.2.2.1
  have hwk : wk ≤ 20 := hq.2.2.2.2.2.2.2.2.2.2.2.2.2.2
  have hsN : ∀ v r, stN v r < 2 ^ 31 := fun v r => by unfold stN; split <;> (try split) <;> (try split) <;> decide
  have hdN : ∀ v r, dpN v r < 2 ^ 31 := fun v r => by unfold dpN; split <;> (try split) <;> (try split) <;> decide
  have hd1 := hq.2.2.2.2.2.2.2.2.2.2.2.1
  have hd2 := hq.2.2.2.2.2.2.2.2.2.2.2.2.1
  have ht : t ≤ 512 := by omega
  have hl := lv_entry ([.ref om, .int p1]) (n := 4) (Nat.le_of_ble_eq_true rfl)
  rw [lg_entry_eq]
  generalize (lg_sl ([.ref om, .int p1]) ++ List.replicate (4 - (lg_sl ([.ref om, .int p1])).length) Slot.unset).toArray = ls at hl ⊢
  have hl : lv_has ls 4 [(0, .ref om), (1, .int p1)] := hl
  refine lv_aload_n hx hb dX2_finish_0 rfl (lv_at hl 0 rfl) ?_
  refine lv_aload_n hx hb dX2_finish_1 rfl (lv_at hl 0 rfl) ?_
  refine lv_iload_n hx hb dX2_finish_2 rfl (lv_at hl 1 rfl) ?_
  refine vp_callSi (W.runV (As := [.int p1]) (rest := [.ref om]) ⟨hx, hb, hml, hown, hts⟩ (m_X2_isRide l hq hm hi ht (p1)) (cwV 1 hts gX2_finish_X2_isRide rfl rfl rfl (by decide +kernel) ⟨Nat.le_of_ble_eq_true rfl, Nat.le_of_ble_eq_true rfl⟩) (wy_pVR hK hw.1 hq.1 rfl) rfl rfl hl.1 rfl (lv_room (Nat.le_of_ble_eq_true rfl)) dX2_finish_3 ⟨Nat.le_of_ble_eq_true rfl, Nat.le_of_ble_eq_true rfl⟩) (fun r_1 er_1 => ?_)
  refine lv_if_ne (tgt := 13) hx hb dX2_finish_6 (by decide) (fun c_2 => ?_) (fun c_2 => ?_)
  · have bc_2 : (okN n p1) = true := bI_1 (fun z => c_2 (er_1.trans z))
    obtain ⟨hk1, e1⟩ := okN_ix bc_2 (by omega)
    have hk40 : ix p1 < 40 := by omega
    refine lv_aload_n hx hb dX2_finish_13 rfl (lv_at hl 0 rfl) ?_
    refine wy_get (ci := 3) (v := .ref (ma 3)) (C := RX2) (T := TX2) (N := 15) hx hb hts hinX2 hown hK hw.1 hq.1 rfl 6 (by decide) (hts (.fieldLink RX2 26 "WheelpayModel" "isDone" "[Z") (by decide +kernel)) (fun _ h9 => h9) rfl dX2_finish_14 ?_
    refine lv_iload_n hx hb dX2_finish_17 rfl (lv_at hl 1 rfl) ?_
    refine wy_zald hx hb hK hw.1 hq.2.2.2.2.1 ((ix p1)) e1 (by omega) (by omega) dX2_finish_18 ?_
    rw [show g3 ((ix p1)) = bI (rfi (rr (ix p1))) from (hm.1 ((ix p1)) (by omega)).2.2.2.1]
    refine lv_if_eq (tgt := 26) hx hb dX2_finish_19 (by decide) (fun c_3 => ?_) (fun c_3 => ?_)
    · have bc_3 : (rfi (rr (ix p1))) = false := bI_0 (rfl.symm.trans c_3)
      have hfinx : rfi (rr (ix p1)) = false := bc_3
      refine lv_iconst (v := 0) hx hb dX2_finish_26 (by decide) ?_
      refine wy_call (va_runV (As := [.int 0]) (rest := []) ⟨hx, hb, hml, hown, hts⟩ (m_X2_fails l hq (0)) (cwV 1 hts gX2_finish_X2_fails rfl rfl rfl (by decide +kernel) ⟨Nat.le_of_ble_eq_true rfl, Nat.le_of_ble_eq_true rfl⟩) (wy_pVW hK hw hq.1 rfl) rfl rfl hl.1 rfl (lv_room (Nat.le_of_ble_eq_true rfl)) dX2_finish_27 ⟨Nat.le_of_ble_eq_true rfl, Nat.le_of_ble_eq_true rfl⟩) hw hA (fun rw_4 Lw_4 fw_4 H locs hpost hw => ?_)
      obtain ⟨er_4, eL_4, hq⟩ := hpost
      subst er_4
      obtain rfl := eL_4.symm
      rw [show bI (decide ((0 : Int32) < 0)) = 0 from rfl]
      refine lv_if_eq (tgt := 35) hx hb dX2_finish_30 (by decide) (fun c_5 => ?_) (fun c_5 => ?_)
      · have bc_5 : (false) = false := bI_0 (rfl.symm.trans c_5)
        refine lv_iconst (v := 0) hx hb dX2_finish_35 (by decide) ?_
        refine lv_istore_n (lv' := [(2, .int 0), (0, .ref om), (1, .int p1)]) hx hb dX2_finish_36 rfl hl (by decide) rfl (fun ls hl => ?_)
        refine lv_iconst (v := 0) hx hb dX2_finish_37 (by decide) ?_
        refine lv_istore_n (lv' := [(3, .int 0), (2, .int 0), (0, .ref om), (1, .int p1)]) hx hb dX2_finish_38 rfl hl (by decide) rfl (fun ls hl => ?_)
        have KK : ∀ (d i : Nat), i + d = 10 → ∀ (xi_i : Int32), xi_i = nI (i) → ∀ (a_s : Int32), a_s = bx_sum (endc (rbk (rr (ix p1))) (rch (rr (ix p1))) 10) i → ∀ (H : Heap) (locs : List Loc) (fc : Nat → va_E), wy_H G L fc (wy_A L s.heap.size) s.heap H locs → wm_S G L fc om ma n km mn wk 0 g0 g1 g2 g3 g4 (arr g5 (ix p1) (fun _ => 0) i) (arr g6 (ix p1) (endc (rbk (rr (ix p1))) (rch (rr (ix p1))) 10) i) g7 g8 g9 → ∀ ls : Array Slot, lv_has ls 4 [(3, .int xi_i), (2, .int a_s), (0, .ref om), (1, .int p1)] → W p l e (headSpec wsX2_finish ({ frames := 2, cells := 0, slots := 0, locals := 43 } : Room)).room s m ([.ref om, .int p1] : List Value).toArray below meth c H locs 0 0 (MQ below (wy_Q G (wm_p G L om ma (if fnC n p1 (rfi (rr (ix p1))) = 0 then n else n) (if fnC n p1 (rfi (rr (ix p1))) = 0 then km else km) (if fnC n p1 (rfi (rr (ix p1))) = 0 then mn else mn) (if fnC n p1 (rfi (rr (ix p1))) = 0 then wk else wk) (if fnC n p1 (rfi (rr (ix p1))) = 0 then po else po) (if fnC n p1 (rfi (rr (ix p1))) = 0 then va_up rr (ix p1) (vEnd (rr (ix p1))) else rr) (fnC n p1 (rfi (rr (ix p1)))) (some (.int (if fnC n p1 (rfi (rr (ix p1))) = 0 then bx_sum (endc (rbk (rr (ix p1))) (rch (rr (ix p1))) 10) 10 else 0)))) (wy_A L s.heap.size)) ([.ref om, .int p1] : List Value).toArray s 0 0 (wy_A L s.heap.size)) (F0 m 39 ls []) := by
          intro d
          induction d with
          | zero =>
            intro i hd_i xi_i ei_i a_s ha_s H locs fc hw hq ls hl
            refine lv_iload_n hx hb dX2_finish_39 rfl (lv_at hl 0 rfl) ?_
            refine lv_bipush (v := 10) hx hb dX2_finish_40 (by decide) ?_
            refine lv_icmp_ge (tgt := 108) hx hb dX2_finish_42 (by decide) (fun c_6 => ?_) (fun c_6 => ?_)
            · have nc_6 : 10 ≤ i := (wy_ge ei_i (rfl : (10 : Int32) = nI 10) (by first | omega | exact hsN _ _ | exact hdN _ _ | exact Nat.lt_of_le_of_lt (cb_le _ _) (by omega)) (by decide)).mp c_6
              obtain rfl : 10 = i := by omega
              refine lv_aload_n hx hb dX2_finish_108 rfl (lv_at hl 2 rfl) ?_
              refine wy_get (ci := 3) (v := .ref (ma 3)) (C := RX2) (T := TX2) (N := 15) hx hb hts hinX2 hown hK hw.1 hq.1 rfl 6 (by decide) (hts (.fieldLink RX2 26 "WheelpayModel" "isDone" "[Z") (by decide +kernel)) (fun _ h9 => h9) rfl dX2_finish_109 ?_
              refine lv_iload_n hx hb dX2_finish_112 rfl (lv_at hl 3 rfl) ?_
              refine lv_iconst (v := 1) hx hb dX2_finish_113 (by decide) ?_
              refine wy_zast hx hb hK hw hq.2.2.2.2.1 ((ix p1)) e1 (by omega) (by omega) dX2_finish_114 (fun H locs f_7 hs_8 hn_9 hw => ?_)
              have hc_10 := wy_c.ne2 hq.1 hn_9 (hd1 3 (by decide))
              have hc_11 := wy_c.ne2 hq.2.1 hn_9 (hd2 0 3 (by decide) (by decide) (by decide))
              have hc_12 := wy_c.ne2 hq.2.2.1 hn_9 (hd2 1 3 (by decide) (by decide) (by decide))
              have hc_13 := wy_c.ne2 hq.2.2.2.1 hn_9 (hd2 2 3 (by decide) (by decide) (by decide))
              have hc_14 := wy_c.ne2 hq.2.2.2.2.2.1 hn_9 (hd2 4 3 (by decide) (by decide) (by decide))
              have hc_15 := wy_c.ne2 hq.2.2.2.2.2.2.1 hn_9 (hd2 5 3 (by decide) (by decide) (by decide))
              have hc_16 := wy_c.ne2 hq.2.2.2.2.2.2.2.1 hn_9 (hd2 6 3 (by decide) (by decide) (by decide))
              have hc_17 := wy_c.ne2 hq.2.2.2.2.2.2.2.2.1 hn_9 (hd2 7 3 (by decide) (by decide) (by decide))
              have hc_18 := wy_c.ne2 hq.2.2.2.2.2.2.2.2.2.1 hn_9 (hd2 8 3 (by decide) (by decide) (by decide))
              have hc_19 := wy_c.ne2 hq.2.2.2.2.2.2.2.2.2.2.1 hn_9 (hd2 9 3 (by decide) (by decide) (by decide))
              obtain ⟨g3_20, eg3_20⟩ : ∃ z, z = upd g3 (ix p1) 1 := ⟨_, rfl⟩
              have hg3_20 : wy_c L f_7 (ma 3) (.inl (G.2 1, 40, .inl g3_20)) := by rw [eg3_20]; exact hs_8
              obtain ⟨g5_21, eg5_21⟩ : ∃ z, z = (arr g5 (ix p1) (fun _ => 0) 10) := ⟨_, rfl⟩
              have hg5_21 : wy_c L f_7 (ma 5) (.inl (G.2 0, 400, .inl g5_21)) := by rw [eg5_21]; exact hc_15
              obtain ⟨g6_22, eg6_22⟩ : ∃ z, z = (arr g6 (ix p1) (endc (rbk (rr (ix p1))) (rch (rr (ix p1))) 10) 10) := ⟨_, rfl⟩
              have hg6_22 : wy_c L f_7 (ma 6) (.inl (G.2 0, 400, .inl g6_22)) := by rw [eg6_22]; exact hc_16
              have hq : wm_S G L f_7 om ma n km mn wk 0 g0 g1 g2 g3_20 g4 g5_21 g6_22 g7 g8 g9 := ⟨hc_10, hc_11, hc_12, hc_13, hg3_20, hc_14, hg5_21, hg6_22, hc_17, hc_18, hc_19, hd1, hd2, (by omega), (by omega)⟩
              have hm : wm_r po (va_up rr (ix p1) (vEnd (rr (ix p1)))) g0 g1 g2 g3_20 g4 g5_21 g6_22 g7 g8 g9 := by rw [eg3_20, eg5_21, eg6_22]; exact wm_end hm hk40
              refine lv_iload_n hx hb dX2_finish_115 rfl (lv_at hl 1 rfl) ?_
              exact wy_iW hx hb hr hlocks dX2_finish_116 hw (Nat.le_of_ble_eq_true rfl) (Nat.le_of_ble_eq_true rfl) (wm_ok (by simp [fnC, bc_2, bc_3]) ha_s hq hm)
            · have nc_6 : ¬ (10 ≤ i) := fun z => c_6 ((wy_ge ei_i (rfl : (10 : Int32) = nI 10) (by first | omega | exact hsN _ _ | exact hdN _ _ | exact Nat.lt_of_le_of_lt (cb_le _ _) (by omega)) (by decide)).mpr z)
              exact absurd nc_6 (by omega)
          | succ d ih_d =>
            intro i hd_i xi_i ei_i a_s ha_s H locs fc hw hq ls hl
            refine lv_iload_n hx hb dX2_finish_39 rfl (lv_at hl 0 rfl) ?_
            refine lv_bipush (v := 10) hx hb dX2_finish_40 (by decide) ?_
            refine lv_icmp_ge (tgt := 108) hx hb dX2_finish_42 (by decide) (fun c_23 => ?_) (fun c_23 => ?_)
            · have nc_23 : 10 ≤ i := (wy_ge ei_i (rfl : (10 : Int32) = nI 10) (by first | omega | exact hsN _ _ | exact hdN _ _ | exact Nat.lt_of_le_of_lt (cb_le _ _) (by omega)) (by decide)).mp c_23
              exact absurd nc_23 (by omega)
            · have nc_23 : ¬ (10 ≤ i) := fun z => c_23 ((wy_ge ei_i (rfl : (10 : Int32) = nI 10) (by first | omega | exact hsN _ _ | exact hdN _ _ | exact Nat.lt_of_le_of_lt (cb_le _ _) (by omega)) (by decide)).mpr z)
              refine lv_aload_n hx hb dX2_finish_45 rfl (lv_at hl 2 rfl) ?_
              refine wy_get (ci := 3) (v := .ref (ma 6)) (C := RX2) (T := TX2) (N := 15) hx hb hts hinX2 hown hK hw.1 hq.1 rfl 9 (by decide) (hts (.fieldLink RX2 36 "WheelpayModel" "charge" "[I") (by decide +kernel)) (fun _ h9 => h9) rfl dX2_finish_46 ?_
              refine lv_bipush (v := 10) hx hb dX2_finish_49 (by decide) ?_
              refine lv_iload_n hx hb dX2_finish_51 rfl (lv_at hl 3 rfl) ?_
              refine lv_imul hx hb dX2_finish_52 ?_
              refine lv_topi (fun x_24 ex_24 => ?_)
              have nx_24 : x_24 = nI (10 * (ix p1)) := ex_24.trans ((congr (congrArg (fun u v : Int32 => u * v) (rfl : (10 : Int32) = nI 10)) e1).trans (pk_mul _ _))
              refine lv_iload_n hx hb dX2_finish_53 rfl (lv_at hl 0 rfl) ?_
              refine lv_iadd hx hb dX2_finish_54 ?_
              refine lv_topi (fun x_25 ex_25 => ?_)
              have nx_25 : x_25 = nI (10 * (ix p1) + i) := ex_25.trans ((congr (congrArg (fun u v : Int32 => u + v) nx_24) ei_i).trans (nI_add _ _))
              refine lv_dup2_11 hx hb dX2_finish_55 rfl rfl ?_
              refine wy_iald hx hb hK hw.1 hq.2.2.2.2.2.2.2.1 (10 * (ix p1) + i) nx_25 (by omega) (by omega) dX2_finish_56 ?_
              rw [show (arr g6 (ix p1) (endc (rbk (rr (ix p1))) (rch (rr (ix p1))) 10) i) (10 * (ix p1) + i) = rch (rr (ix p1)) i from (arr_here _ _ _ _).trans ((hm.1 (ix p1) hk40).2.2.2.2.2 i (by omega)).2.1]
              refine lv_aload_n hx hb dX2_finish_57 rfl (lv_at hl 2 rfl) ?_
              refine lv_iload_n hx hb dX2_finish_58 rfl (lv_at hl 3 rfl) ?_
              refine lv_iload_n hx hb dX2_finish_59 rfl (lv_at hl 0 rfl) ?_
              refine vp_callSi (W.runV (As := [.int p1, .int xi_i]) (rest := [.int (rch (rr (ix p1)) i), .int x_25, .ref (ma 6)]) ⟨hx, hb, hml, hown, hts⟩ (m_X2_atR l hq (p1) ((ix p1)) (by omega) e1 (xi_i) (i) (by omega) ei_i (nI (stN (rr (ix p1)) i)) ((arr_here _ _ _ _).trans ((hm.1 (ix p1) hk40).2.2.2.2.2 i (by omega)).1)) (cwV 2 hts gX2_finish_X2_at rfl rfl rfl (by decide +kernel) ⟨Nat.le_of_ble_eq_true rfl, Nat.le_of_ble_eq_true rfl⟩) (wy_pVR hK hw.1 hq.1 rfl) rfl rfl hl.1 rfl (lv_room (Nat.le_of_ble_eq_true rfl)) dX2_finish_60 ⟨Nat.le_of_ble_eq_true rfl, Nat.le_of_ble_eq_true rfl⟩) (fun r_26 er_26 => ?_)
              refine lv_iconst (v := 1) hx hb dX2_finish_63 (by decide) ?_
              refine lv_icmp_ne (tgt := 73) hx hb dX2_finish_64 (by decide) (fun c_27 => ?_) (fun c_27 => ?_)
              · have nc_27 : ¬ (stN (rr (ix p1)) i = 1) := fun z => c_27 ((wy_eq er_26 (rfl : (1 : Int32) = nI 1) (by first | omega | exact hsN _ _ | exact hdN _ _ | exact Nat.lt_of_le_of_lt (cb_le _ _) (by omega)) (by decide)).mpr z)
                refine lv_iconst (v := 0) hx hb dX2_finish_73 (by decide) ?_
                refine lv_iadd hx hb dX2_finish_74 ?_
                refine lv_topi (fun x_28 ex_28 => ?_)
                have hz : x_28 = (endc (rbk (rr (ix p1))) (rch (rr (ix p1))) 10) i := (by simp only [er_1, ha_s, ex_24, ex_25, er_26, ex_28, endc]; rw [if_neg (fun z => nc_27 ((stN1 hfinx).mpr z.2)), Int32.add_zero])
                refine wy_iast hx hb hK hw hq.2.2.2.2.2.2.2.1 (10 * (ix p1) + i) nx_25 (by omega) (by omega) dX2_finish_75 (fun H locs f_29 hs_30 hn_31 hw => ?_)
                have hc_32 := wy_c.ne2 hq.1 hn_31 (hd1 6 (by decide))
                have hc_33 := wy_c.ne2 hq.2.1 hn_31 (hd2 0 6 (by decide) (by decide) (by decide))
                have hc_34 := wy_c.ne2 hq.2.2.1 hn_31 (hd2 1 6 (by decide) (by decide) (by decide))
                have hc_35 := wy_c.ne2 hq.2.2.2.1 hn_31 (hd2 2 6 (by decide) (by decide) (by decide))
                have hc_36 := wy_c.ne2 hq.2.2.2.2.1 hn_31 (hd2 3 6 (by decide) (by decide) (by decide))
                have hc_37 := wy_c.ne2 hq.2.2.2.2.2.1 hn_31 (hd2 4 6 (by decide) (by decide) (by decide))
                have hc_38 := wy_c.ne2 hq.2.2.2.2.2.2.1 hn_31 (hd2 5 6 (by decide) (by decide) (by decide))
                have hc_39 := wy_c.ne2 hq.2.2.2.2.2.2.2.2.1 hn_31 (hd2 7 6 (by decide) (by decide) (by decide))
                have hc_40 := wy_c.ne2 hq.2.2.2.2.2.2.2.2.2.1 hn_31 (hd2 8 6 (by decide) (by decide) (by decide))
                have hc_41 := wy_c.ne2 hq.2.2.2.2.2.2.2.2.2.2.1 hn_31 (hd2 9 6 (by decide) (by decide) (by decide))
                refine lv_aload_n hx hb dX2_finish_76 rfl (lv_at hl 2 rfl) ?_
                refine wy_get (ci := 3) (v := .ref (ma 5)) (C := RX2) (T := TX2) (N := 15) hx hb hts hinX2 hown hK hw.1 hc_32 rfl 8 (by decide) (hts (.fieldLink RX2 33 "WheelpayModel" "state" "[I") (by decide +kernel)) (fun _ h9 => h9) rfl dX2_finish_77 ?_
                refine lv_bipush (v := 10) hx hb dX2_finish_80 (by decide) ?_
                refine lv_iload_n hx hb dX2_finish_82 rfl (lv_at hl 3 rfl) ?_
                refine lv_imul hx hb dX2_finish_83 ?_
                refine lv_topi (fun x_42 ex_42 => ?_)
                have nx_42 : x_42 = nI (10 * (ix p1)) := ex_42.trans ((congr (congrArg (fun u v : Int32 => u * v) (rfl : (10 : Int32) = nI 10)) e1).trans (pk_mul _ _))
                refine lv_iload_n hx hb dX2_finish_84 rfl (lv_at hl 0 rfl) ?_
                refine lv_iadd hx hb dX2_finish_85 ?_
                refine lv_topi (fun x_43 ex_43 => ?_)
                have nx_43 : x_43 = nI (10 * (ix p1) + i) := ex_43.trans ((congr (congrArg (fun u v : Int32 => u + v) nx_42) ei_i).trans (nI_add _ _))
                refine lv_iconst (v := 0) hx hb dX2_finish_86 (by decide) ?_
                refine wy_iast hx hb hK hw hc_38 (10 * (ix p1) + i) nx_43 (by omega) (by omega) dX2_finish_87 (fun H locs f_44 hs_45 hn_46 hw => ?_)
                have hc_47 := wy_c.ne2 hc_32 hn_46 (hd1 5 (by decide))
                have hc_48 := wy_c.ne2 hc_33 hn_46 (hd2 0 5 (by decide) (by decide) (by decide))
                have hc_49 := wy_c.ne2 hc_34 hn_46 (hd2 1 5 (by decide) (by decide) (by decide))
                have hc_50 := wy_c.ne2 hc_35 hn_46 (hd2 2 5 (by decide) (by decide) (by decide))
                have hc_51 := wy_c.ne2 hc_36 hn_46 (hd2 3 5 (by decide) (by decide) (by decide))
                have hc_52 := wy_c.ne2 hc_37 hn_46 (hd2 4 5 (by decide) (by decide) (by decide))
                have hc_53 := wy_c.ne2 hs_30 hn_46 (hd2 6 5 (by decide) (by decide) (by decide))
                have hc_54 := wy_c.ne2 hc_39 hn_46 (hd2 7 5 (by decide) (by decide) (by decide))
                have hc_55 := wy_c.ne2 hc_40 hn_46 (hd2 8 5 (by decide) (by decide) (by decide))
                have hc_56 := wy_c.ne2 hc_41 hn_46 (hd2 9 5 (by decide) (by decide) (by decide))
                refine lv_iload_n hx hb dX2_finish_88 rfl (lv_at hl 1 rfl) ?_
                refine lv_aload_n hx hb dX2_finish_89 rfl (lv_at hl 2 rfl) ?_
                refine wy_get (ci := 3) (v := .ref (ma 6)) (C := RX2) (T := TX2) (N := 15) hx hb hts hinX2 hown hK hw.1 hc_47 rfl 9 (by decide) (hts (.fieldLink RX2 36 "WheelpayModel" "charge" "[I") (by decide +kernel)) (fun _ h9 => h9) rfl dX2_finish_90 ?_
                refine lv_bipush (v := 10) hx hb dX2_finish_93 (by decide) ?_
                refine lv_iload_n hx hb dX2_finish_95 rfl (lv_at hl 3 rfl) ?_
                refine lv_imul hx hb dX2_finish_96 ?_
                refine lv_topi (fun x_57 ex_57 => ?_)
                have nx_57 : x_57 = nI (10 * (ix p1)) := ex_57.trans ((congr (congrArg (fun u v : Int32 => u * v) (rfl : (10 : Int32) = nI 10)) e1).trans (pk_mul _ _))
                refine lv_iload_n hx hb dX2_finish_97 rfl (lv_at hl 0 rfl) ?_
                refine lv_iadd hx hb dX2_finish_98 ?_
                refine lv_topi (fun x_58 ex_58 => ?_)
                have nx_58 : x_58 = nI (10 * (ix p1) + i) := ex_58.trans ((congr (congrArg (fun u v : Int32 => u + v) nx_57) ei_i).trans (nI_add _ _))
                refine wy_iald hx hb hK hw.1 hc_53 (10 * (ix p1) + i) nx_58 (by omega) (by omega) dX2_finish_99 ?_
                refine lv_iadd hx hb dX2_finish_100 ?_
                refine lv_topi (fun x_59 ex_59 => ?_)
                rw [arr_t g5 (ix p1) (fun _ => 0) i rfl] at hs_45
                rw [arr_t g6 (ix p1) (endc (rbk (rr (ix p1))) (rch (rr (ix p1))) 10) i hz] at hc_53
                have hq : wm_S G L f_44 om ma n km mn wk 0 g0 g1 g2 g3 g4 (arr g5 (ix p1) (fun _ => 0) (i + 1)) (arr g6 (ix p1) (endc (rbk (rr (ix p1))) (rch (rr (ix p1))) 10) (i + 1)) g7 g8 g9 := ⟨hc_47, hc_48, hc_49, hc_50, hc_51, hc_52, hs_45, hc_53, hc_54, hc_55, hc_56, hd1, hd2, hn, hwk⟩
                refine lv_istore_n (lv' := [(2, .int x_59), (3, .int xi_i), (0, .ref om), (1, .int p1)]) hx hb dX2_finish_101 rfl hl (by decide) rfl (fun ls hl => ?_)
                obtain ⟨x_60, ex_60⟩ : ∃ y : Int32, y = xi_i + 1 := ⟨_, rfl⟩
                have nx_60 : x_60 = nI (i + 1) := by rw [ex_60, ei_i, nI_1]
                refine lv_iinc (v := x_60) (lv' := [(3, .int x_60), (2, .int x_59), (0, .ref om), (1, .int p1)]) hx hb dX2_finish_102 hl (k := 1) rfl (by rw [ex_60]; rfl) (by decide) rfl (fun ls hl => ?_)
                refine lv_goto (tgt := 39) hx hb dX2_finish_105 (by decide) ?_
                exact ih_d (i + 1) (by omega) _ nx_60 _ (by simp only [ha_s, ex_59, upd_h, hz]; rfl) _ _ _ hw hq ls (lv_sub hl [0, 1, 2, 3] rfl)
              · have nc_27 : stN (rr (ix p1)) i = 1 := (wy_eq er_26 (rfl : (1 : Int32) = nI 1) (by first | omega | exact hsN _ _ | exact hdN _ _ | exact Nat.lt_of_le_of_lt (cb_le _ _) (by omega)) (by decide)).mp c_27
                refine lv_sipush (v := 400) hx hb dX2_finish_67 (by decide) ?_
                refine lv_goto (tgt := 74) hx hb dX2_finish_70 (by decide) ?_
                refine lv_iadd hx hb dX2_finish_74 ?_
                refine lv_topi (fun x_61 ex_61 => ?_)
                have hz : x_61 = (endc (rbk (rr (ix p1))) (rch (rr (ix p1))) 10) i := (by simp only [er_1, ha_s, ex_24, ex_25, er_26, ex_61, endc]; rw [if_pos ⟨by omega, (stN1 hfinx).mp nc_27⟩])
                refine wy_iast hx hb hK hw hq.2.2.2.2.2.2.2.1 (10 * (ix p1) + i) nx_25 (by omega) (by omega) dX2_finish_75 (fun H locs f_62 hs_63 hn_64 hw => ?_)
                have hc_65 := wy_c.ne2 hq.1 hn_64 (hd1 6 (by decide))
                have hc_66 := wy_c.ne2 hq.2.1 hn_64 (hd2 0 6 (by decide) (by decide) (by decide))
                have hc_67 := wy_c.ne2 hq.2.2.1 hn_64 (hd2 1 6 (by decide) (by decide) (by decide))
                have hc_68 := wy_c.ne2 hq.2.2.2.1 hn_64 (hd2 2 6 (by decide) (by decide) (by decide))
                have hc_69 := wy_c.ne2 hq.2.2.2.2.1 hn_64 (hd2 3 6 (by decide) (by decide) (by decide))
                have hc_70 := wy_c.ne2 hq.2.2.2.2.2.1 hn_64 (hd2 4 6 (by decide) (by decide) (by decide))
                have hc_71 := wy_c.ne2 hq.2.2.2.2.2.2.1 hn_64 (hd2 5 6 (by decide) (by decide) (by decide))
                have hc_72 := wy_c.ne2 hq.2.2.2.2.2.2.2.2.1 hn_64 (hd2 7 6 (by decide) (by decide) (by decide))
                have hc_73 := wy_c.ne2 hq.2.2.2.2.2.2.2.2.2.1 hn_64 (hd2 8 6 (by decide) (by decide) (by decide))
                have hc_74 := wy_c.ne2 hq.2.2.2.2.2.2.2.2.2.2.1 hn_64 (hd2 9 6 (by decide) (by decide) (by decide))
                refine lv_aload_n hx hb dX2_finish_76 rfl (lv_at hl 2 rfl) ?_
                refine wy_get (ci := 3) (v := .ref (ma 5)) (C := RX2) (T := TX2) (N := 15) hx hb hts hinX2 hown hK hw.1 hc_65 rfl 8 (by decide) (hts (.fieldLink RX2 33 "WheelpayModel" "state" "[I") (by decide +kernel)) (fun _ h9 => h9) rfl dX2_finish_77 ?_
                refine lv_bipush (v := 10) hx hb dX2_finish_80 (by decide) ?_
                refine lv_iload_n hx hb dX2_finish_82 rfl (lv_at hl 3 rfl) ?_
                refine lv_imul hx hb dX2_finish_83 ?_
                refine lv_topi (fun x_75 ex_75 => ?_)
                have nx_75 : x_75 = nI (10 * (ix p1)) := ex_75.trans ((congr (congrArg (fun u v : Int32 => u * v) (rfl : (10 : Int32) = nI 10)) e1).trans (pk_mul _ _))
                refine lv_iload_n hx hb dX2_finish_84 rfl (lv_at hl 0 rfl) ?_
                refine lv_iadd hx hb dX2_finish_85 ?_
                refine lv_topi (fun x_76 ex_76 => ?_)
                have nx_76 : x_76 = nI (10 * (ix p1) + i) := ex_76.trans ((congr (congrArg (fun u v : Int32 => u + v) nx_75) ei_i).trans (nI_add _ _))
                refine lv_iconst (v := 0) hx hb dX2_finish_86 (by decide) ?_
                refine wy_iast hx hb hK hw hc_71 (10 * (ix p1) + i) nx_76 (by omega) (by omega) dX2_finish_87 (fun H locs f_77 hs_78 hn_79 hw => ?_)
                have hc_80 := wy_c.ne2 hc_65 hn_79 (hd1 5 (by decide))
                have hc_81 := wy_c.ne2 hc_66 hn_79 (hd2 0 5 (by decide) (by decide) (by decide))
                have hc_82 := wy_c.ne2 hc_67 hn_79 (hd2 1 5 (by decide) (by decide) (by decide))
                have hc_83 := wy_c.ne2 hc_68 hn_79 (hd2 2 5 (by decide) (by decide) (by decide))
                have hc_84 := wy_c.ne2 hc_69 hn_79 (hd2 3 5 (by decide) (by decide) (by decide))
                have hc_85 := wy_c.ne2 hc_70 hn_79 (hd2 4 5 (by decide) (by decide) (by decide))
                have hc_86 := wy_c.ne2 hs_63 hn_79 (hd2 6 5 (by decide) (by decide) (by decide))
                have hc_87 := wy_c.ne2 hc_72 hn_79 (hd2 7 5 (by decide) (by decide) (by decide))
                have hc_88 := wy_c.ne2 hc_73 hn_79 (hd2 8 5 (by decide) (by decide) (by decide))
                have hc_89 := wy_c.ne2 hc_74 hn_79 (hd2 9 5 (by decide) (by decide) (by decide))
                refine lv_iload_n hx hb dX2_finish_88 rfl (lv_at hl 1 rfl) ?_
                refine lv_aload_n hx hb dX2_finish_89 rfl (lv_at hl 2 rfl) ?_
                refine wy_get (ci := 3) (v := .ref (ma 6)) (C := RX2) (T := TX2) (N := 15) hx hb hts hinX2 hown hK hw.1 hc_80 rfl 9 (by decide) (hts (.fieldLink RX2 36 "WheelpayModel" "charge" "[I") (by decide +kernel)) (fun _ h9 => h9) rfl dX2_finish_90 ?_
                refine lv_bipush (v := 10) hx hb dX2_finish_93 (by decide) ?_
                refine lv_iload_n hx hb dX2_finish_95 rfl (lv_at hl 3 rfl) ?_
                refine lv_imul hx hb dX2_finish_96 ?_
                refine lv_topi (fun x_90 ex_90 => ?_)
                have nx_90 : x_90 = nI (10 * (ix p1)) := ex_90.trans ((congr (congrArg (fun u v : Int32 => u * v) (rfl : (10 : Int32) = nI 10)) e1).trans (pk_mul _ _))
                refine lv_iload_n hx hb dX2_finish_97 rfl (lv_at hl 0 rfl) ?_
                refine lv_iadd hx hb dX2_finish_98 ?_
                refine lv_topi (fun x_91 ex_91 => ?_)
                have nx_91 : x_91 = nI (10 * (ix p1) + i) := ex_91.trans ((congr (congrArg (fun u v : Int32 => u + v) nx_90) ei_i).trans (nI_add _ _))
                refine wy_iald hx hb hK hw.1 hc_86 (10 * (ix p1) + i) nx_91 (by omega) (by omega) dX2_finish_99 ?_
                refine lv_iadd hx hb dX2_finish_100 ?_
                refine lv_topi (fun x_92 ex_92 => ?_)
                rw [arr_t g5 (ix p1) (fun _ => 0) i rfl] at hs_78
                rw [arr_t g6 (ix p1) (endc (rbk (rr (ix p1))) (rch (rr (ix p1))) 10) i hz] at hc_86
                have hq : wm_S G L f_77 om ma n km mn wk 0 g0 g1 g2 g3 g4 (arr g5 (ix p1) (fun _ => 0) (i + 1)) (arr g6 (ix p1) (endc (rbk (rr (ix p1))) (rch (rr (ix p1))) 10) (i + 1)) g7 g8 g9 := ⟨hc_80, hc_81, hc_82, hc_83, hc_84, hc_85, hs_78, hc_86, hc_87, hc_88, hc_89, hd1, hd2, hn, hwk⟩
                refine lv_istore_n (lv' := [(2, .int x_92), (3, .int xi_i), (0, .ref om), (1, .int p1)]) hx hb dX2_finish_101 rfl hl (by decide) rfl (fun ls hl => ?_)
                obtain ⟨x_93, ex_93⟩ : ∃ y : Int32, y = xi_i + 1 := ⟨_, rfl⟩
                have nx_93 : x_93 = nI (i + 1) := by rw [ex_93, ei_i, nI_1]
                refine lv_iinc (v := x_93) (lv' := [(3, .int x_93), (2, .int x_92), (0, .ref om), (1, .int p1)]) hx hb dX2_finish_102 hl (k := 1) rfl (by rw [ex_93]; rfl) (by decide) rfl (fun ls hl => ?_)
                refine lv_goto (tgt := 39) hx hb dX2_finish_105 (by decide) ?_
                exact ih_d (i + 1) (by omega) _ nx_93 _ (by simp only [ha_s, ex_92, upd_h, hz]; rfl) _ _ _ hw hq ls (lv_sub hl [0, 1, 2, 3] rfl)
        exact KK (10) 0 (by omega) _ rfl _ rfl _ _ _ hw (by rw [arr_0, arr_0]; exact hq) ls (lv_sub hl [0, 1, 2, 3] rfl)
      · exact absurd rfl c_5
    · have bc_3 : (rfi (rr (ix p1))) = true := bI_1 (fun z => c_3 (rfl.trans z))
      refine lv_iconst (v := 2) hx hb dX2_finish_22 (by decide) ?_
      refine lv_goto (tgt := 27) hx hb dX2_finish_23 (by decide) ?_
      refine wy_call (va_runV (As := [.int 2]) (rest := []) ⟨hx, hb, hml, hown, hts⟩ (m_X2_fails l hq (2)) (cwV 1 hts gX2_finish_X2_fails rfl rfl rfl (by decide +kernel) ⟨Nat.le_of_ble_eq_true rfl, Nat.le_of_ble_eq_true rfl⟩) (wy_pVW hK hw hq.1 rfl) rfl rfl hl.1 rfl (lv_room (Nat.le_of_ble_eq_true rfl)) dX2_finish_27 ⟨Nat.le_of_ble_eq_true rfl, Nat.le_of_ble_eq_true rfl⟩) hw hA (fun rw_94 Lw_94 fw_94 H locs hpost hw => ?_)
      obtain ⟨er_94, eL_94, hq⟩ := hpost
      subst er_94
      obtain rfl := eL_94.symm
      rw [show bI (decide ((0 : Int32) < 2)) = 1 from rfl]
      refine lv_if_eq (tgt := 35) hx hb dX2_finish_30 (by decide) (fun c_95 => ?_) (fun c_95 => ?_)
      · exact absurd c_95 (by decide)
      · have bc_95 : (true) = true := bI_1 (fun z => c_95 (rfl.trans z))
        refine lv_iconst (v := 0) hx hb dX2_finish_33 (by decide) ?_
        exact wy_iW hx hb hr hlocks dX2_finish_34 hw (Nat.le_of_ble_eq_true rfl) (Nat.le_of_ble_eq_true rfl) (wm_no (by simp [fnC, bc_2, bc_3, bc_95]) (by decide) hq hm)
  · have bc_2 : (okN n p1) = false := bI_0 (er_1.symm.trans c_2)
    refine lv_iconst (v := 1) hx hb dX2_finish_9 (by decide) ?_
    refine lv_goto (tgt := 27) hx hb dX2_finish_10 (by decide) ?_
    refine wy_call (va_runV (As := [.int 1]) (rest := []) ⟨hx, hb, hml, hown, hts⟩ (m_X2_fails l hq (1)) (cwV 1 hts gX2_finish_X2_fails rfl rfl rfl (by decide +kernel) ⟨Nat.le_of_ble_eq_true rfl, Nat.le_of_ble_eq_true rfl⟩) (wy_pVW hK hw hq.1 rfl) rfl rfl hl.1 rfl (lv_room (Nat.le_of_ble_eq_true rfl)) dX2_finish_27 ⟨Nat.le_of_ble_eq_true rfl, Nat.le_of_ble_eq_true rfl⟩) hw hA (fun rw_96 Lw_96 fw_96 H locs hpost hw => ?_)
    obtain ⟨er_96, eL_96, hq⟩ := hpost
    subst er_96
    obtain rfl := eL_96.symm
    rw [show bI (decide ((0 : Int32) < 1)) = 1 from rfl]
    refine lv_if_eq (tgt := 35) hx hb dX2_finish_30 (by decide) (fun c_97 => ?_) (fun c_97 => ?_)
    · exact absurd c_97 (by decide)
    · have bc_97 : (true) = true := bI_1 (fun z => c_97 (rfl.trans z))
      refine lv_iconst (v := 0) hx hb dX2_finish_33 (by decide) ?_
      exact wy_iW hx hb hr hlocks dX2_finish_34 hw (Nat.le_of_ble_eq_true rfl) (Nat.le_of_ble_eq_true rfl) (wm_no (by simp [fnC, bc_2, bc_97]) (by decide) hq hm)
set_option maxHeartbeats 4000000 in
set_option maxRecDepth 100000 in
theorem m_X2_drive (l : Launch) {G : wy_G} {L : List Nat} {f : Nat → va_E} {sz : Nat} {om : Nat} {ma : Nat → Nat} {n : Nat} {km mn : Int32} {wk : Nat} {th : Int32} {po : Nat → Int32} {rr : Nat → wr_V} {g0 g1 g2 g3 g4 g5 g6 g7 g8 g9 : Nat → Int32} {t : Nat} (hq : wm_S G L f om ma n km mn wk th g0 g1 g2 g3 g4 g5 g6 g7 g8 g9) (hm : wm_r po rr g0 g1 g2 g3 g4 g5 g6 g7 g8 g9) (hi : ∀ k, k < 40 → wi t (rr k)) (ht1 : t + 1 ≤ 512) (p1 p2 p3 : Int32) : Met l yX2_drive wsX2_drive ({ frames := 2, cells := 0, slots := 0, locals := 43 } : Room) (va_Pc [.ref om, .int p1, .int p2, .int p3] (wy_W G L f sz)) (wy_Q G (wm_p G L om ma (if dvC n p1 p2 p3 (rfi (rr (ix p1))) = 0 then n else n) (if dvC n p1 p2 p3 (rfi (rr (ix p1))) = 0 then km else km) (if dvC n p1 p2 p3 (rfi (rr (ix p1))) = 0 then mn else mn) (if dvC n p1 p2 p3 (rfi (rr (ix p1))) = 0 then wk else wk) (if dvC n p1 p2 p3 (rfi (rr (ix p1))) = 0 then po else po) (if dvC n p1 p2 p3 (rfi (rr (ix p1))) = 0 then va_up rr (ix p1) (vStr (rr (ix p1)) (p2 * km + p3 * mn) p3) else rr) (dvC n p1 p2 p3 (rfi (rr (ix p1)))) (some (.int (if dvC n p1 p2 p3 (rfi (rr (ix p1))) = 0 then if (cb (rsd (rr (ix p1))) 10) = 0 then 0 else (p2 * km + p3 * mn) else 0)))) (wy_A L sz)) 0 0 (wy_A L sz) := by
  refine Met.ofW (cc := cX2_drive) (maxL := 9) (ret := (some .int)) (by decide) rfl ?_
  intro p e s m args below meth c s₁ B hml hv
  obtain ⟨rfl, hv⟩ := hv
  obtain ⟨hw, hK, hA⟩ := wy_start hv
  have hsz := hv.1
  subst hsz
  have hx := B.exec
  have hb := B.bytes
  have hr := B.returns
  have hts := atoms_spec (ws := wsX2_drive) B.pre
  have hown : s.vm.findClass RX2 = some m.cls := findClass_of_methodNamed B.named
  have hlocks := B.notSynchronized
  have hinX2 : ∀ w ∈ wsX20, w ∈ wsX2_drive := by decide +kernel
  have hn : n ≤ 40 := hq.2.2.2.2.2.2.2.2.2.2.2.2.2.1
  have hwk : wk ≤ 20 := hq.2.2.2.2.2.2.2.2.2.2.2.2.2.2
  have hsN : ∀ v r, stN v r < 2 ^ 31 := fun v r => by unfold stN; split <;> (try split) <;> (try split) <;> decide
  have hdN : ∀ v r, dpN v r < 2 ^ 31 := fun v r => by unfold dpN; split <;> (try split) <;> (try split) <;> decide
  have hd1 := hq.2.2.2.2.2.2.2.2.2.2.2.1
  have hd2 := hq.2.2.2.2.2.2.2.2.2.2.2.2.1
  have ht : t ≤ 512 := by omega
  have hl := lv_entry ([.ref om, .int p1, .int p2, .int p3]) (n := 9) (Nat.le_of_ble_eq_true rfl)
  rw [lg_entry_eq]
  generalize (lg_sl ([.ref om, .int p1, .int p2, .int p3]) ++ List.replicate (9 - (lg_sl ([.ref om, .int p1, .int p2, .int p3])).length) Slot.unset).toArray = ls at hl ⊢
  have hl : lv_has ls 9 [(0, .ref om), (1, .int p1), (2, .int p2), (3, .int p3)] := hl
  refine lv_iload_n hx hb dX2_drive_0 rfl (lv_at hl 2 rfl) ?_
  refine lv_iconst (v := 0) hx hb dX2_drive_1 (by decide) ?_
  refine lv_bipush (v := 100) hx hb dX2_drive_2 (by decide) ?_
  refine vp_callSi (W.runS (As := [.int p2, .int 0, .int 100]) (rest := []) ⟨hx, hb, hml, hown, hts⟩ (m_X2_isIn l (p2) (0) (100)) (va_cwS 3 hts gX2_drive_X2_isIn rfl rfl rfl (by decide +kernel) ⟨Nat.le_of_ble_eq_true rfl, Nat.le_of_ble_eq_true rfl⟩) (wy_pSN) rfl rfl hl.1 rfl (lv_room (Nat.le_of_ble_eq_true rfl)) dX2_drive_4 ⟨Nat.le_of_ble_eq_true rfl, Nat.le_of_ble_eq_true rfl⟩) (fun r_1 er_1 => ?_)
  refine lv_if_eq (tgt := 24) hx hb dX2_drive_7 (by decide) (fun c_2 => ?_) (fun c_2 => ?_)
  · have bc_2 : (rngB p2 0 100) = false := bI_0 (er_1.symm.trans c_2)
    refine lv_iconst (v := 0) hx hb dX2_drive_24 (by decide) ?_
    refine lv_istore (lv' := [(4, .int 0), (0, .ref om), (1, .int p1), (2, .int p2), (3, .int p3)]) hx hb dX2_drive_25 hl (by decide) rfl (fun ls hl => ?_)
    refine lv_aload_n hx hb dX2_drive_27 rfl (lv_at hl 1 rfl) ?_
    refine lv_aload_n hx hb dX2_drive_28 rfl (lv_at hl 1 rfl) ?_
    refine lv_iload_n hx hb dX2_drive_29 rfl (lv_at hl 2 rfl) ?_
    refine vp_callSi (W.runV (As := [.int p1]) (rest := [.ref om]) ⟨hx, hb, hml, hown, hts⟩ (m_X2_isRide l hq hm hi ht (p1)) (cwV 1 hts gX2_drive_X2_isRide rfl rfl rfl (by decide +kernel) ⟨Nat.le_of_ble_eq_true rfl, Nat.le_of_ble_eq_true rfl⟩) (wy_pVR hK hw.1 hq.1 rfl) rfl rfl hl.1 rfl (lv_room (Nat.le_of_ble_eq_true rfl)) dX2_drive_30 ⟨Nat.le_of_ble_eq_true rfl, Nat.le_of_ble_eq_true rfl⟩) (fun r_3 er_3 => ?_)
    refine lv_if_ne (tgt := 40) hx hb dX2_drive_33 (by decide) (fun c_4 => ?_) (fun c_4 => ?_)
    · have bc_4 : (okN n p1) = true := bI_1 (fun z => c_4 (er_3.trans z))
      obtain ⟨hk1, e1⟩ := okN_ix bc_4 (by omega)
      have hk40 : ix p1 < 40 := by omega
      refine lv_iload hx hb dX2_drive_40 (lv_at hl 0 rfl) ?_
      refine lv_if_ne (tgt := 49) hx hb dX2_drive_42 (by decide) (fun c_5 => ?_) (fun c_5 => ?_)
      · exact absurd (rfl : (0 : Int32) = nI 0) c_5
      · have bc_5 : (false) = false := bI_0 ((rfl : (0 : Int32) = nI 0).symm.trans c_5)
        refine lv_iconst (v := 2) hx hb dX2_drive_45 (by decide) ?_
        refine lv_goto (tgt := 63) hx hb dX2_drive_46 (by decide) ?_
        refine wy_call (va_runV (As := [.int 2]) (rest := []) ⟨hx, hb, hml, hown, hts⟩ (m_X2_fails l hq (2)) (cwV 1 hts gX2_drive_X2_fails rfl rfl rfl (by decide +kernel) ⟨Nat.le_of_ble_eq_true rfl, Nat.le_of_ble_eq_true rfl⟩) (wy_pVW hK hw hq.1 rfl) rfl rfl hl.1 rfl (lv_room (Nat.le_of_ble_eq_true rfl)) dX2_drive_63 ⟨Nat.le_of_ble_eq_true rfl, Nat.le_of_ble_eq_true rfl⟩) hw hA (fun rw_6 Lw_6 fw_6 H locs hpost hw => ?_)
        obtain ⟨er_6, eL_6, hq⟩ := hpost
        subst er_6
        obtain rfl := eL_6.symm
        rw [show bI (decide ((0 : Int32) < 2)) = 1 from rfl]
        refine lv_if_eq (tgt := 71) hx hb dX2_drive_66 (by decide) (fun c_7 => ?_) (fun c_7 => ?_)
        · exact absurd c_7 (by decide)
        · have bc_7 : (true) = true := bI_1 (fun z => c_7 (rfl.trans z))
          refine lv_iconst (v := 0) hx hb dX2_drive_69 (by decide) ?_
          exact wy_iW hx hb hr hlocks dX2_drive_70 hw (Nat.le_of_ble_eq_true rfl) (Nat.le_of_ble_eq_true rfl) (wm_no (by simp [dvC, bc_2, bc_4, bc_7]) (by decide) hq hm)
    · have bc_4 : (okN n p1) = false := bI_0 (er_3.symm.trans c_4)
      refine lv_iconst (v := 1) hx hb dX2_drive_36 (by decide) ?_
      refine lv_goto (tgt := 63) hx hb dX2_drive_37 (by decide) ?_
      refine wy_call (va_runV (As := [.int 1]) (rest := []) ⟨hx, hb, hml, hown, hts⟩ (m_X2_fails l hq (1)) (cwV 1 hts gX2_drive_X2_fails rfl rfl rfl (by decide +kernel) ⟨Nat.le_of_ble_eq_true rfl, Nat.le_of_ble_eq_true rfl⟩) (wy_pVW hK hw hq.1 rfl) rfl rfl hl.1 rfl (lv_room (Nat.le_of_ble_eq_true rfl)) dX2_drive_63 ⟨Nat.le_of_ble_eq_true rfl, Nat.le_of_ble_eq_true rfl⟩) hw hA (fun rw_8 Lw_8 fw_8 H locs hpost hw => ?_)
      obtain ⟨er_8, eL_8, hq⟩ := hpost
      subst er_8
      obtain rfl := eL_8.symm
      rw [show bI (decide ((0 : Int32) < 1)) = 1 from rfl]
      refine lv_if_eq (tgt := 71) hx hb dX2_drive_66 (by decide) (fun c_9 => ?_) (fun c_9 => ?_)
      · exact absurd c_9 (by decide)
      · have bc_9 : (true) = true := bI_1 (fun z => c_9 (rfl.trans z))
        refine lv_iconst (v := 0) hx hb dX2_drive_69 (by decide) ?_
        exact wy_iW hx hb hr hlocks dX2_drive_70 hw (Nat.le_of_ble_eq_true rfl) (Nat.le_of_ble_eq_true rfl) (wm_no (by simp [dvC, bc_2, bc_4, bc_9]) (by decide) hq hm)
  · have bc_2 : (rngB p2 0 100) = true := bI_1 (fun z => c_2 (er_1.trans z))
    refine lv_iload_n hx hb dX2_drive_10 rfl (lv_at hl 3 rfl) ?_
    refine lv_iconst (v := 1) hx hb dX2_drive_11 (by decide) ?_
    refine lv_bipush (v := 120) hx hb dX2_drive_12 (by decide) ?_
    refine vp_callSi (W.runS (As := [.int p3, .int 1, .int 120]) (rest := []) ⟨hx, hb, hml, hown, hts⟩ (m_X2_isIn l (p3) (1) (120)) (va_cwS 3 hts gX2_drive_X2_isIn rfl rfl rfl (by decide +kernel) ⟨Nat.le_of_ble_eq_true rfl, Nat.le_of_ble_eq_true rfl⟩) (wy_pSN) rfl rfl hl.1 rfl (lv_room (Nat.le_of_ble_eq_true rfl)) dX2_drive_14 ⟨Nat.le_of_ble_eq_true rfl, Nat.le_of_ble_eq_true rfl⟩) (fun r_10 er_10 => ?_)
    refine lv_if_eq (tgt := 24) hx hb dX2_drive_17 (by decide) (fun c_11 => ?_) (fun c_11 => ?_)
    · have bc_11 : (rngB p3 1 120) = false := bI_0 (er_10.symm.trans c_11)
      refine lv_iconst (v := 0) hx hb dX2_drive_24 (by decide) ?_
      refine lv_istore (lv' := [(4, .int 0), (0, .ref om), (1, .int p1), (2, .int p2), (3, .int p3)]) hx hb dX2_drive_25 hl (by decide) rfl (fun ls hl => ?_)
      refine lv_aload_n hx hb dX2_drive_27 rfl (lv_at hl 1 rfl) ?_
      refine lv_aload_n hx hb dX2_drive_28 rfl (lv_at hl 1 rfl) ?_
      refine lv_iload_n hx hb dX2_drive_29 rfl (lv_at hl 2 rfl) ?_
      refine vp_callSi (W.runV (As := [.int p1]) (rest := [.ref om]) ⟨hx, hb, hml, hown, hts⟩ (m_X2_isRide l hq hm hi ht (p1)) (cwV 1 hts gX2_drive_X2_isRide rfl rfl rfl (by decide +kernel) ⟨Nat.le_of_ble_eq_true rfl, Nat.le_of_ble_eq_true rfl⟩) (wy_pVR hK hw.1 hq.1 rfl) rfl rfl hl.1 rfl (lv_room (Nat.le_of_ble_eq_true rfl)) dX2_drive_30 ⟨Nat.le_of_ble_eq_true rfl, Nat.le_of_ble_eq_true rfl⟩) (fun r_12 er_12 => ?_)
      refine lv_if_ne (tgt := 40) hx hb dX2_drive_33 (by decide) (fun c_13 => ?_) (fun c_13 => ?_)
      · have bc_13 : (okN n p1) = true := bI_1 (fun z => c_13 (er_12.trans z))
        obtain ⟨hk1, e1⟩ := okN_ix bc_13 (by omega)
        have hk40 : ix p1 < 40 := by omega
        refine lv_iload hx hb dX2_drive_40 (lv_at hl 0 rfl) ?_
        refine lv_if_ne (tgt := 49) hx hb dX2_drive_42 (by decide) (fun c_14 => ?_) (fun c_14 => ?_)
        · exact absurd (rfl : (0 : Int32) = nI 0) c_14
        · have bc_14 : (false) = false := bI_0 ((rfl : (0 : Int32) = nI 0).symm.trans c_14)
          refine lv_iconst (v := 2) hx hb dX2_drive_45 (by decide) ?_
          refine lv_goto (tgt := 63) hx hb dX2_drive_46 (by decide) ?_
          refine wy_call (va_runV (As := [.int 2]) (rest := []) ⟨hx, hb, hml, hown, hts⟩ (m_X2_fails l hq (2)) (cwV 1 hts gX2_drive_X2_fails rfl rfl rfl (by decide +kernel) ⟨Nat.le_of_ble_eq_true rfl, Nat.le_of_ble_eq_true rfl⟩) (wy_pVW hK hw hq.1 rfl) rfl rfl hl.1 rfl (lv_room (Nat.le_of_ble_eq_true rfl)) dX2_drive_63 ⟨Nat.le_of_ble_eq_true rfl, Nat.le_of_ble_eq_true rfl⟩) hw hA (fun rw_15 Lw_15 fw_15 H locs hpost hw => ?_)
          obtain ⟨er_15, eL_15, hq⟩ := hpost
          subst er_15
          obtain rfl := eL_15.symm
          rw [show bI (decide ((0 : Int32) < 2)) = 1 from rfl]
          refine lv_if_eq (tgt := 71) hx hb dX2_drive_66 (by decide) (fun c_16 => ?_) (fun c_16 => ?_)
          · exact absurd c_16 (by decide)
          · have bc_16 : (true) = true := bI_1 (fun z => c_16 (rfl.trans z))
            refine lv_iconst (v := 0) hx hb dX2_drive_69 (by decide) ?_
            exact wy_iW hx hb hr hlocks dX2_drive_70 hw (Nat.le_of_ble_eq_true rfl) (Nat.le_of_ble_eq_true rfl) (wm_no (by simp [dvC, bc_2, bc_11, bc_13, bc_16]) (by decide) hq hm)
      · have bc_13 : (okN n p1) = false := bI_0 (er_12.symm.trans c_13)
        refine lv_iconst (v := 1) hx hb dX2_drive_36 (by decide) ?_
        refine lv_goto (tgt := 63) hx hb dX2_drive_37 (by decide) ?_
        refine wy_call (va_runV (As := [.int 1]) (rest := []) ⟨hx, hb, hml, hown, hts⟩ (m_X2_fails l hq (1)) (cwV 1 hts gX2_drive_X2_fails rfl rfl rfl (by decide +kernel) ⟨Nat.le_of_ble_eq_true rfl, Nat.le_of_ble_eq_true rfl⟩) (wy_pVW hK hw hq.1 rfl) rfl rfl hl.1 rfl (lv_room (Nat.le_of_ble_eq_true rfl)) dX2_drive_63 ⟨Nat.le_of_ble_eq_true rfl, Nat.le_of_ble_eq_true rfl⟩) hw hA (fun rw_17 Lw_17 fw_17 H locs hpost hw => ?_)
        obtain ⟨er_17, eL_17, hq⟩ := hpost
        subst er_17
        obtain rfl := eL_17.symm
        rw [show bI (decide ((0 : Int32) < 1)) = 1 from rfl]
        refine lv_if_eq (tgt := 71) hx hb dX2_drive_66 (by decide) (fun c_18 => ?_) (fun c_18 => ?_)
        · exact absurd c_18 (by decide)
        · have bc_18 : (true) = true := bI_1 (fun z => c_18 (rfl.trans z))
          refine lv_iconst (v := 0) hx hb dX2_drive_69 (by decide) ?_
          exact wy_iW hx hb hr hlocks dX2_drive_70 hw (Nat.le_of_ble_eq_true rfl) (Nat.le_of_ble_eq_true rfl) (wm_no (by simp [dvC, bc_2, bc_11, bc_13, bc_18]) (by decide) hq hm)
    · have bc_11 : (rngB p3 1 120) = true := bI_1 (fun z => c_11 (er_10.trans z))
      obtain ⟨m3, hmi1, hmi2, e3⟩ := rng_nat (p := p3) (x := 1) (y := 120) (a := 1) (b := 120) bc_11 rfl rfl (by decide) (by decide)
      refine lv_iconst (v := 1) hx hb dX2_drive_20 (by decide) ?_
      refine lv_goto (tgt := 25) hx hb dX2_drive_21 (by decide) ?_
      refine lv_istore (lv' := [(4, .int 1), (0, .ref om), (1, .int p1), (2, .int p2), (3, .int p3)]) hx hb dX2_drive_25 hl (by decide) rfl (fun ls hl => ?_)
      refine lv_aload_n hx hb dX2_drive_27 rfl (lv_at hl 1 rfl) ?_
      refine lv_aload_n hx hb dX2_drive_28 rfl (lv_at hl 1 rfl) ?_
      refine lv_iload_n hx hb dX2_drive_29 rfl (lv_at hl 2 rfl) ?_
      refine vp_callSi (W.runV (As := [.int p1]) (rest := [.ref om]) ⟨hx, hb, hml, hown, hts⟩ (m_X2_isRide l hq hm hi ht (p1)) (cwV 1 hts gX2_drive_X2_isRide rfl rfl rfl (by decide +kernel) ⟨Nat.le_of_ble_eq_true rfl, Nat.le_of_ble_eq_true rfl⟩) (wy_pVR hK hw.1 hq.1 rfl) rfl rfl hl.1 rfl (lv_room (Nat.le_of_ble_eq_true rfl)) dX2_drive_30 ⟨Nat.le_of_ble_eq_true rfl, Nat.le_of_ble_eq_true rfl⟩) (fun r_19 er_19 => ?_)
      refine lv_if_ne (tgt := 40) hx hb dX2_drive_33 (by decide) (fun c_20 => ?_) (fun c_20 => ?_)
      · have bc_20 : (okN n p1) = true := bI_1 (fun z => c_20 (er_19.trans z))
        obtain ⟨hk1, e1⟩ := okN_ix bc_20 (by omega)
        have hk40 : ix p1 < 40 := by omega
        refine lv_iload hx hb dX2_drive_40 (lv_at hl 0 rfl) ?_
        refine lv_if_ne (tgt := 49) hx hb dX2_drive_42 (by decide) (fun c_21 => ?_) (fun c_21 => ?_)
        · have bc_21 : (true) = true := bI_1 (fun z => c_21 ((rfl : (1 : Int32) = nI 1).trans z))
          refine lv_aload_n hx hb dX2_drive_49 rfl (lv_at hl 1 rfl) ?_
          refine wy_get (ci := 3) (v := .ref (ma 3)) (C := RX2) (T := TX2) (N := 15) hx hb hts hinX2 hown hK hw.1 hq.1 rfl 6 (by decide) (hts (.fieldLink RX2 26 "WheelpayModel" "isDone" "[Z") (by decide +kernel)) (fun _ h9 => h9) rfl dX2_drive_50 ?_
          refine lv_iload_n hx hb dX2_drive_53 rfl (lv_at hl 2 rfl) ?_
          refine wy_zald hx hb hK hw.1 hq.2.2.2.2.1 ((ix p1)) e1 (by omega) (by omega) dX2_drive_54 ?_
          rw [show g3 ((ix p1)) = bI (rfi (rr (ix p1))) from (hm.1 ((ix p1)) (by omega)).2.2.2.1]
          refine lv_if_eq (tgt := 62) hx hb dX2_drive_55 (by decide) (fun c_22 => ?_) (fun c_22 => ?_)
          · have bc_22 : (rfi (rr (ix p1))) = false := bI_0 (rfl.symm.trans c_22)
            have hfinx : rfi (rr (ix p1)) = false := bc_22
            refine lv_iconst (v := 0) hx hb dX2_drive_62 (by decide) ?_
            refine wy_call (va_runV (As := [.int 0]) (rest := []) ⟨hx, hb, hml, hown, hts⟩ (m_X2_fails l hq (0)) (cwV 1 hts gX2_drive_X2_fails rfl rfl rfl (by decide +kernel) ⟨Nat.le_of_ble_eq_true rfl, Nat.le_of_ble_eq_true rfl⟩) (wy_pVW hK hw hq.1 rfl) rfl rfl hl.1 rfl (lv_room (Nat.le_of_ble_eq_true rfl)) dX2_drive_63 ⟨Nat.le_of_ble_eq_true rfl, Nat.le_of_ble_eq_true rfl⟩) hw hA (fun rw_23 Lw_23 fw_23 H locs hpost hw => ?_)
            obtain ⟨er_23, eL_23, hq⟩ := hpost
            subst er_23
            obtain rfl := eL_23.symm
            rw [show bI (decide ((0 : Int32) < 0)) = 0 from rfl]
            refine lv_if_eq (tgt := 71) hx hb dX2_drive_66 (by decide) (fun c_24 => ?_) (fun c_24 => ?_)
            · have bc_24 : (false) = false := bI_0 (rfl.symm.trans c_24)
              refine lv_aload_n hx hb dX2_drive_71 rfl (lv_at hl 1 rfl) ?_
              refine wy_get (ci := 3) (v := .ref (ma 4)) (C := RX2) (T := TX2) (N := 15) hx hb hts hinX2 hown hK hw.1 hq.1 rfl 7 (by decide) (hts (.fieldLink RX2 30 "WheelpayModel" "hasDriven" "[Z") (by decide +kernel)) (fun _ h9 => h9) rfl dX2_drive_72 ?_
              refine lv_iload_n hx hb dX2_drive_75 rfl (lv_at hl 2 rfl) ?_
              refine lv_iconst (v := 1) hx hb dX2_drive_76 (by decide) ?_
              refine wy_zast hx hb hK hw hq.2.2.2.2.2.1 ((ix p1)) e1 (by omega) (by omega) dX2_drive_77 (fun H locs f_25 hs_26 hn_27 hw => ?_)
              have hc_28 := wy_c.ne2 hq.1 hn_27 (hd1 4 (by decide))
              have hc_29 := wy_c.ne2 hq.2.1 hn_27 (hd2 0 4 (by decide) (by decide) (by decide))
              have hc_30 := wy_c.ne2 hq.2.2.1 hn_27 (hd2 1 4 (by decide) (by decide) (by decide))
              have hc_31 := wy_c.ne2 hq.2.2.2.1 hn_27 (hd2 2 4 (by decide) (by decide) (by decide))
              have hc_32 := wy_c.ne2 hq.2.2.2.2.1 hn_27 (hd2 3 4 (by decide) (by decide) (by decide))
              have hc_33 := wy_c.ne2 hq.2.2.2.2.2.2.1 hn_27 (hd2 5 4 (by decide) (by decide) (by decide))
              have hc_34 := wy_c.ne2 hq.2.2.2.2.2.2.2.1 hn_27 (hd2 6 4 (by decide) (by decide) (by decide))
              have hc_35 := wy_c.ne2 hq.2.2.2.2.2.2.2.2.1 hn_27 (hd2 7 4 (by decide) (by decide) (by decide))
              have hc_36 := wy_c.ne2 hq.2.2.2.2.2.2.2.2.2.1 hn_27 (hd2 8 4 (by decide) (by decide) (by decide))
              have hc_37 := wy_c.ne2 hq.2.2.2.2.2.2.2.2.2.2.1 hn_27 (hd2 9 4 (by decide) (by decide) (by decide))
              refine lv_aload_n hx hb dX2_drive_78 rfl (lv_at hl 1 rfl) ?_
              refine wy_get (ci := 3) (v := .ref (ma 2)) (C := RX2) (T := TX2) (N := 15) hx hb hts hinX2 hown hK hw.1 hc_28 rfl 5 (by decide) (hts (.fieldLink RX2 23 "WheelpayModel" "minutes" "[I") (by decide +kernel)) (fun _ h9 => h9) rfl dX2_drive_79 ?_
              refine lv_iload_n hx hb dX2_drive_82 rfl (lv_at hl 2 rfl) ?_
              refine lv_dup2_11 hx hb dX2_drive_83 rfl rfl ?_
              refine wy_iald hx hb hK hw.1 hc_31 ((ix p1)) e1 (by omega) (by omega) dX2_drive_84 ?_
              rw [show g2 ((ix p1)) = rmi (rr (ix p1)) from (hm.1 ((ix p1)) (by omega)).2.2.1]
              refine lv_iload_n hx hb dX2_drive_85 rfl (lv_at hl 4 rfl) ?_
              refine lv_iadd hx hb dX2_drive_86 ?_
              refine lv_topi (fun x_38 ex_38 => ?_)
              obtain rfl : x_38 = rmi (rr (ix p1)) + p3 := by simp only [er_1, er_10, er_19, ex_38]
              refine wy_iast hx hb hK hw hc_31 ((ix p1)) e1 (by omega) (by omega) dX2_drive_87 (fun H locs f_39 hs_40 hn_41 hw => ?_)
              have hc_42 := wy_c.ne2 hc_28 hn_41 (hd1 2 (by decide))
              have hc_43 := wy_c.ne2 hc_29 hn_41 (hd2 0 2 (by decide) (by decide) (by decide))
              have hc_44 := wy_c.ne2 hc_30 hn_41 (hd2 1 2 (by decide) (by decide) (by decide))
              have hc_45 := wy_c.ne2 hc_32 hn_41 (hd2 3 2 (by decide) (by decide) (by decide))
              have hc_46 := wy_c.ne2 hs_26 hn_41 (hd2 4 2 (by decide) (by decide) (by decide))
              have hc_47 := wy_c.ne2 hc_33 hn_41 (hd2 5 2 (by decide) (by decide) (by decide))
              have hc_48 := wy_c.ne2 hc_34 hn_41 (hd2 6 2 (by decide) (by decide) (by decide))
              have hc_49 := wy_c.ne2 hc_35 hn_41 (hd2 7 2 (by decide) (by decide) (by decide))
              have hc_50 := wy_c.ne2 hc_36 hn_41 (hd2 8 2 (by decide) (by decide) (by decide))
              have hc_51 := wy_c.ne2 hc_37 hn_41 (hd2 9 2 (by decide) (by decide) (by decide))
              refine lv_aload_n hx hb dX2_drive_88 rfl (lv_at hl 1 rfl) ?_
              refine lv_iload_n hx hb dX2_drive_89 rfl (lv_at hl 2 rfl) ?_
              refine lv_iconst (v := 2) hx hb dX2_drive_90 (by decide) ?_
              have hq : wm_S G L f_39 om ma n km mn wk 0 g0 g1 (upd g2 (ix p1) (rmi (rr (ix p1)) + p3)) g3 (upd g4 (ix p1) 1) g5 g6 g7 g8 g9 := ⟨hc_42, hc_43, hc_44, hs_40, hc_45, hc_46, hc_47, hc_48, hc_49, hc_50, hc_51, hd1, hd2, hn, hwk⟩
              refine vp_callSi (W.runV (As := [.int p1, .int 2]) (rest := []) ⟨hx, hb, hml, hown, hts⟩ (m_X2_manyR l hq (p1) ((ix p1)) (by omega) e1 (2) 2 (by decide) rfl (stN (rr (ix p1))) (hsN _) (fun r hr => ((hm.1 (ix p1) hk40).2.2.2.2.2 r hr).1)) (cwV 2 hts gX2_drive_X2_many rfl rfl rfl (by decide +kernel) ⟨Nat.le_of_ble_eq_true rfl, Nat.le_of_ble_eq_true rfl⟩) (wy_pVR hK hw.1 hq.1 rfl) rfl rfl hl.1 rfl (lv_room (Nat.le_of_ble_eq_true rfl)) dX2_drive_91 ⟨Nat.le_of_ble_eq_true rfl, Nat.le_of_ble_eq_true rfl⟩) (fun r_52 er_52 => ?_)
              obtain rfl : r_52 = nI (cb (rsd (rr (ix p1))) 10) := er_52.trans (congrArg nI (mny2 (hi _ hk40) hfinx))
              refine lv_istore (lv' := [(5, .int (nI (cb (rsd (rr (ix p1))) 10))), (4, .int 1), (0, .ref om), (1, .int p1), (2, .int p2), (3, .int p3)]) hx hb dX2_drive_94 hl (by decide) rfl (fun ls hl => ?_)
              refine lv_iload hx hb dX2_drive_96 (lv_at hl 0 rfl) ?_
              refine lv_if_ne (tgt := 105) hx hb dX2_drive_98 (by decide) (fun c_53 => ?_) (fun c_53 => ?_)
              · have hn0 : ¬ (cb (rsd (rr (ix p1))) 10) = 0 := fun z => c_53 (by rw [z]; rfl)
                refine lv_iload_n hx hb dX2_drive_105 rfl (lv_at hl 4 rfl) ?_
                refine lv_aload_n hx hb dX2_drive_106 rfl (lv_at hl 2 rfl) ?_
                refine wy_get (ci := 3) (v := .int km) (C := RX2) (T := TX2) (N := 15) hx hb hts hinX2 hown hK hw.1 hq.1 rfl 0 (by decide) (hts (.fieldLink RX2 7 "WheelpayModel" "byKilometre" "I") (by decide +kernel)) (fun _ h9 => h9) rfl dX2_drive_107 ?_
                refine lv_imul hx hb dX2_drive_110 ?_
                refine lv_topi (fun x_54 ex_54 => ?_)
                refine lv_iload_n hx hb dX2_drive_111 rfl (lv_at hl 5 rfl) ?_
                refine lv_aload_n hx hb dX2_drive_112 rfl (lv_at hl 2 rfl) ?_
                refine wy_get (ci := 3) (v := .int mn) (C := RX2) (T := TX2) (N := 15) hx hb hts hinX2 hown hK hw.1 hq.1 rfl 1 (by decide) (hts (.fieldLink RX2 13 "WheelpayModel" "byMinute" "I") (by decide +kernel)) (fun _ h9 => h9) rfl dX2_drive_113 ?_
                refine lv_imul hx hb dX2_drive_116 ?_
                refine lv_topi (fun x_55 ex_55 => ?_)
                refine lv_iadd hx hb dX2_drive_117 ?_
                refine lv_topi (fun x_56 ex_56 => ?_)
                obtain rfl : x_56 = p2 * km + p3 * mn := by simp only [er_1, er_10, er_19, ex_54, ex_55, ex_56]
                refine lv_istore (lv' := [(6, .int (p2 * km + p3 * mn)), (5, .int (nI (cb (rsd (rr (ix p1))) 10))), (4, .int 1), (0, .ref om), (1, .int p1), (2, .int p2), (3, .int p3)]) hx hb dX2_drive_118 hl (by decide) rfl (fun ls hl => ?_)
                refine lv_iload hx hb dX2_drive_120 (lv_at hl 1 rfl) ?_
                refine lv_if_ne (tgt := 129) hx hb dX2_drive_122 (by decide) (fun c_57 => ?_) (fun c_57 => ?_)
                · refine lv_iload hx hb dX2_drive_129 (lv_at hl 0 rfl) ?_
                  refine lv_iload hx hb dX2_drive_131 (lv_at hl 1 rfl) ?_
                  refine lv_irem hx hb dX2_drive_133 c_53 ?_
                  refine lv_topi (fun x_58 ex_58 => ?_)
                  obtain rfl : x_58 = (p2 * km + p3 * mn) - (p2 * km + p3 * mn) / nI (cb (rsd (rr (ix p1))) 10) * nI (cb (rsd (rr (ix p1))) 10) := by simp only [er_1, er_10, er_19, ex_54, ex_55, ex_58]
                  refine lv_istore (lv' := [(7, .int ((p2 * km + p3 * mn) - (p2 * km + p3 * mn) / nI (cb (rsd (rr (ix p1))) 10) * nI (cb (rsd (rr (ix p1))) 10))), (6, .int (p2 * km + p3 * mn)), (5, .int (nI (cb (rsd (rr (ix p1))) 10))), (4, .int 1), (0, .ref om), (1, .int p1), (2, .int p2), (3, .int p3)]) hx hb dX2_drive_134 hl (by decide) rfl (fun ls hl => ?_)
                  refine lv_iconst (v := 0) hx hb dX2_drive_136 (by decide) ?_
                  refine lv_istore (lv' := [(8, .int 0), (7, .int ((p2 * km + p3 * mn) - (p2 * km + p3 * mn) / nI (cb (rsd (rr (ix p1))) 10) * nI (cb (rsd (rr (ix p1))) 10))), (6, .int (p2 * km + p3 * mn)), (5, .int (nI (cb (rsd (rr (ix p1))) 10))), (4, .int 1), (0, .ref om), (1, .int p1), (2, .int p2), (3, .int p3)]) hx hb dX2_drive_137 hl (by decide) rfl (fun ls hl => ?_)
                  have KK : ∀ (d i : Nat), i + d = 10 → ∀ (xi_i : Int32), xi_i = nI (i) → ∀ (a_l : Int32), a_l = ((p2 * km + p3 * mn) - (p2 * km + p3 * mn) / nI (cb (rsd (rr (ix p1))) 10) * nI (cb (rsd (rr (ix p1))) 10)) - nI (cb (rsd (rr (ix p1))) i) → ∀ (H : Heap) (locs : List Loc) (fc : Nat → va_E), wy_H G L fc (wy_A L s.heap.size) s.heap H locs → wm_S G L fc om ma n km mn wk 0 g0 g1 (upd g2 (ix p1) (rmi (rr (ix p1)) + p3)) g3 (upd g4 (ix p1) 1) g5 (arr g6 (ix p1) (stchg (rsd (rr (ix p1))) (rch (rr (ix p1))) (p2 * km + p3 * mn)) i) g7 g8 g9 → ∀ ls : Array Slot, lv_has ls 9 [(8, .int xi_i), (7, .int a_l), (6, .int (p2 * km + p3 * mn)), (5, .int (nI (cb (rsd (rr (ix p1))) 10))), (4, .int 1), (0, .ref om), (1, .int p1), (2, .int p2), (3, .int p3)] → W p l e (headSpec wsX2_drive ({ frames := 2, cells := 0, slots := 0, locals := 43 } : Room)).room s m ([.ref om, .int p1, .int p2, .int p3] : List Value).toArray below meth c H locs 0 0 (MQ below (wy_Q G (wm_p G L om ma (if dvC n p1 p2 p3 (rfi (rr (ix p1))) = 0 then n else n) (if dvC n p1 p2 p3 (rfi (rr (ix p1))) = 0 then km else km) (if dvC n p1 p2 p3 (rfi (rr (ix p1))) = 0 then mn else mn) (if dvC n p1 p2 p3 (rfi (rr (ix p1))) = 0 then wk else wk) (if dvC n p1 p2 p3 (rfi (rr (ix p1))) = 0 then po else po) (if dvC n p1 p2 p3 (rfi (rr (ix p1))) = 0 then va_up rr (ix p1) (vStr (rr (ix p1)) (p2 * km + p3 * mn) p3) else rr) (dvC n p1 p2 p3 (rfi (rr (ix p1)))) (some (.int (if dvC n p1 p2 p3 (rfi (rr (ix p1))) = 0 then if (cb (rsd (rr (ix p1))) 10) = 0 then 0 else (p2 * km + p3 * mn) else 0)))) (wy_A L s.heap.size)) ([.ref om, .int p1, .int p2, .int p3] : List Value).toArray s 0 0 (wy_A L s.heap.size)) (F0 m 139 ls []) := by
                    intro d
                    induction d with
                    | zero =>
                      intro i hd_i xi_i ei_i a_l ha_l H locs fc hw hq ls hl
                      refine lv_iload hx hb dX2_drive_139 (lv_at hl 0 rfl) ?_
                      refine lv_bipush (v := 10) hx hb dX2_drive_141 (by decide) ?_
                      refine lv_icmp_ge (tgt := 197) hx hb dX2_drive_143 (by decide) (fun c_59 => ?_) (fun c_59 => ?_)
                      · have nc_59 : 10 ≤ i := (wy_ge ei_i (rfl : (10 : Int32) = nI 10) (by first | omega | exact hsN _ _ | exact hdN _ _ | exact Nat.lt_of_le_of_lt (cb_le _ _) (by omega)) (by decide)).mp c_59
                        obtain rfl : 10 = i := by omega
                        obtain ⟨g2_60, eg2_60⟩ : ∃ z, z = (upd g2 (ix p1) (rmi (rr (ix p1)) + p3)) := ⟨_, rfl⟩
                        have hg2_60 : wy_c L fc (ma 2) (.inl (G.2 0, 40, .inl g2_60)) := by rw [eg2_60]; exact hq.2.2.2.1
                        obtain ⟨g4_61, eg4_61⟩ : ∃ z, z = (upd g4 (ix p1) 1) := ⟨_, rfl⟩
                        have hg4_61 : wy_c L fc (ma 4) (.inl (G.2 1, 40, .inl g4_61)) := by rw [eg4_61]; exact hq.2.2.2.2.2.1
                        obtain ⟨g6_62, eg6_62⟩ : ∃ z, z = (arr g6 (ix p1) (stchg (rsd (rr (ix p1))) (rch (rr (ix p1))) (p2 * km + p3 * mn)) 10) := ⟨_, rfl⟩
                        have hg6_62 : wy_c L fc (ma 6) (.inl (G.2 0, 400, .inl g6_62)) := by rw [eg6_62]; exact hq.2.2.2.2.2.2.2.1
                        have hq : wm_S G L fc om ma n km mn wk 0 g0 g1 g2_60 g3 g4_61 g5 g6_62 g7 g8 g9 := ⟨hq.1, hq.2.1, hq.2.2.1, hg2_60, hq.2.2.2.2.1, hg4_61, hq.2.2.2.2.2.2.1, hg6_62, hq.2.2.2.2.2.2.2.2.1, hq.2.2.2.2.2.2.2.2.2.1, hq.2.2.2.2.2.2.2.2.2.2.1, hd1, hd2, (by omega), (by omega)⟩
                        have hm : wm_r po (va_up rr (ix p1) (vStr (rr (ix p1)) (p2 * km + p3 * mn) p3)) g0 g1 g2_60 g3 g4_61 g5 g6_62 g7 g8 g9 := by rw [eg2_60, eg4_61, eg6_62]; exact (by rw [e3]; exact wm_str hm (hi _ hk40) (by omega) hk40 hmi1 hmi2 hfinx (mny2 (hi _ hk40) hfinx))
                        refine lv_iload hx hb dX2_drive_197 (lv_at hl 2 rfl) ?_
                        exact wy_iW hx hb hr hlocks dX2_drive_199 hw (Nat.le_of_ble_eq_true rfl) (Nat.le_of_ble_eq_true rfl) (wm_ok (by simp [dvC, bc_2, bc_11, bc_20, bc_21, bc_22]) (by rw [if_neg hn0]) hq hm)
                      · have nc_59 : ¬ (10 ≤ i) := fun z => c_59 ((wy_ge ei_i (rfl : (10 : Int32) = nI 10) (by first | omega | exact hsN _ _ | exact hdN _ _ | exact Nat.lt_of_le_of_lt (cb_le _ _) (by omega)) (by decide)).mpr z)
                        exact absurd nc_59 (by omega)
                    | succ d ih_d =>
                      intro i hd_i xi_i ei_i a_l ha_l H locs fc hw hq ls hl
                      refine lv_iload hx hb dX2_drive_139 (lv_at hl 0 rfl) ?_
                      refine lv_bipush (v := 10) hx hb dX2_drive_141 (by decide) ?_
                      refine lv_icmp_ge (tgt := 197) hx hb dX2_drive_143 (by decide) (fun c_63 => ?_) (fun c_63 => ?_)
                      · have nc_63 : 10 ≤ i := (wy_ge ei_i (rfl : (10 : Int32) = nI 10) (by first | omega | exact hsN _ _ | exact hdN _ _ | exact Nat.lt_of_le_of_lt (cb_le _ _) (by omega)) (by decide)).mp c_63
                        exact absurd nc_63 (by omega)
                      · have nc_63 : ¬ (10 ≤ i) := fun z => c_63 ((wy_ge ei_i (rfl : (10 : Int32) = nI 10) (by first | omega | exact hsN _ _ | exact hdN _ _ | exact Nat.lt_of_le_of_lt (cb_le _ _) (by omega)) (by decide)).mpr z)
                        refine lv_aload_n hx hb dX2_drive_146 rfl (lv_at hl 5 rfl) ?_
                        refine lv_iload_n hx hb dX2_drive_147 rfl (lv_at hl 6 rfl) ?_
                        refine lv_iload hx hb dX2_drive_148 (lv_at hl 0 rfl) ?_
                        refine vp_callSi (W.runV (As := [.int p1, .int xi_i]) (rest := []) ⟨hx, hb, hml, hown, hts⟩ (m_X2_atR l hq (p1) ((ix p1)) (by omega) e1 (xi_i) (i) (by omega) ei_i (nI (stN (rr (ix p1)) i)) (((hm.1 (ix p1) hk40).2.2.2.2.2 i (by omega)).1)) (cwV 2 hts gX2_drive_X2_at rfl rfl rfl (by decide +kernel) ⟨Nat.le_of_ble_eq_true rfl, Nat.le_of_ble_eq_true rfl⟩) (wy_pVR hK hw.1 hq.1 rfl) rfl rfl hl.1 rfl (lv_room (Nat.le_of_ble_eq_true rfl)) dX2_drive_150 ⟨Nat.le_of_ble_eq_true rfl, Nat.le_of_ble_eq_true rfl⟩) (fun r_64 er_64 => ?_)
                        refine lv_iconst (v := 2) hx hb dX2_drive_153 (by decide) ?_
                        refine lv_icmp_ne (tgt := 191) hx hb dX2_drive_154 (by decide) (fun c_65 => ?_) (fun c_65 => ?_)
                        · have nc_65 : ¬ (stN (rr (ix p1)) i = 2) := fun z => c_65 ((wy_eq er_64 (rfl : (2 : Int32) = nI 2) (by first | omega | exact hsN _ _ | exact hdN _ _ | exact Nat.lt_of_le_of_lt (cb_le _ _) (by omega)) (by decide)).mpr z)
                          have hab : rsd (rr (ix p1)) i = false := by
                            cases h : rsd (rr (ix p1)) i with
                            | false => rfl
                            | true => exact absurd ((stN2 (hi _ hk40) (by omega) hfinx).mpr h) nc_65
                          obtain ⟨x_66, ex_66⟩ : ∃ y : Int32, y = xi_i + 1 := ⟨_, rfl⟩
                          have nx_66 : x_66 = nI (i + 1) := by rw [ex_66, ei_i, nI_1]
                          refine lv_iinc (v := x_66) (lv' := [(8, .int x_66), (7, .int a_l), (6, .int (p2 * km + p3 * mn)), (5, .int (nI (cb (rsd (rr (ix p1))) 10))), (4, .int 1), (0, .ref om), (1, .int p1), (2, .int p2), (3, .int p3)]) hx hb dX2_drive_191 hl (k := 0) rfl (by rw [ex_66]; rfl) (by decide) rfl (fun ls hl => ?_)
                          refine lv_goto (tgt := 139) hx hb dX2_drive_194 (by decide) ?_
                          exact ih_d (i + 1) (by omega) _ nx_66 _ (by rw [ha_l]; simp [cb, hab]) _ _ _ hw (by rw [← arr_f g6 (ix p1) (stchg (rsd (rr (ix p1))) (rch (rr (ix p1))) (p2 * km + p3 * mn)) i (by rw [((hm.1 (ix p1) hk40).2.2.2.2.2 i (by omega)).2.1]; simp only [stchg]; rw [if_neg hn0]; simp only [stch]; rw [if_neg (fun z => absurd (hab.symm.trans z.2) (by decide))])]; exact hq) ls (lv_sub hl [0, 1, 2, 3, 4, 5, 6, 7, 8] rfl)
                        · have nc_65 : stN (rr (ix p1)) i = 2 := (wy_eq er_64 (rfl : (2 : Int32) = nI 2) (by first | omega | exact hsN _ _ | exact hdN _ _ | exact Nat.lt_of_le_of_lt (cb_le _ _) (by omega)) (by decide)).mp c_65
                          have hab : rsd (rr (ix p1)) i = true := (stN2 (hi _ hk40) (by omega) hfinx).mp nc_65
                          refine lv_aload_n hx hb dX2_drive_157 rfl (lv_at hl 5 rfl) ?_
                          refine wy_get (ci := 3) (v := .ref (ma 6)) (C := RX2) (T := TX2) (N := 15) hx hb hts hinX2 hown hK hw.1 hq.1 rfl 9 (by decide) (hts (.fieldLink RX2 36 "WheelpayModel" "charge" "[I") (by decide +kernel)) (fun _ h9 => h9) rfl dX2_drive_158 ?_
                          refine lv_bipush (v := 10) hx hb dX2_drive_161 (by decide) ?_
                          refine lv_iload_n hx hb dX2_drive_163 rfl (lv_at hl 6 rfl) ?_
                          refine lv_imul hx hb dX2_drive_164 ?_
                          refine lv_topi (fun x_67 ex_67 => ?_)
                          have nx_67 : x_67 = nI (10 * (ix p1)) := ex_67.trans ((congr (congrArg (fun u v : Int32 => u * v) (rfl : (10 : Int32) = nI 10)) e1).trans (pk_mul _ _))
                          refine lv_iload hx hb dX2_drive_165 (lv_at hl 0 rfl) ?_
                          refine lv_iadd hx hb dX2_drive_167 ?_
                          refine lv_topi (fun x_68 ex_68 => ?_)
                          have nx_68 : x_68 = nI (10 * (ix p1) + i) := ex_68.trans ((congr (congrArg (fun u v : Int32 => u + v) nx_67) ei_i).trans (nI_add _ _))
                          refine lv_dup2_11 hx hb dX2_drive_168 rfl rfl ?_
                          refine wy_iald hx hb hK hw.1 hq.2.2.2.2.2.2.2.1 (10 * (ix p1) + i) nx_68 (by omega) (by omega) dX2_drive_169 ?_
                          rw [show (arr g6 (ix p1) (stchg (rsd (rr (ix p1))) (rch (rr (ix p1))) (p2 * km + p3 * mn)) i) (10 * (ix p1) + i) = rch (rr (ix p1)) i from (arr_here _ _ _ _).trans ((hm.1 (ix p1) hk40).2.2.2.2.2 i (by omega)).2.1]
                          refine lv_iload hx hb dX2_drive_170 (lv_at hl 2 rfl) ?_
                          refine lv_iload hx hb dX2_drive_172 (lv_at hl 3 rfl) ?_
                          refine lv_idiv hx hb dX2_drive_174 c_53 ?_
                          refine lv_topi (fun x_69 ex_69 => ?_)
                          refine lv_iload hx hb dX2_drive_175 (lv_at hl 1 rfl) ?_
                          refine lv_if_le (tgt := 184) hx hb dX2_drive_177 (by decide) (fun c_70 => ?_) (fun c_70 => ?_)
                          · refine lv_iconst (v := 0) hx hb dX2_drive_184 (by decide) ?_
                            refine lv_iadd hx hb dX2_drive_185 ?_
                            refine lv_topi (fun x_71 ex_71 => ?_)
                            refine lv_iadd hx hb dX2_drive_186 ?_
                            refine lv_topi (fun x_72 ex_72 => ?_)
                            have hz : x_72 = (stchg (rsd (rr (ix p1))) (rch (rr (ix p1))) (p2 * km + p3 * mn)) i := by
                              simp only [ex_54, ex_55, ex_67, ex_68, ex_69, ex_71, ex_72, stchg]
                              rw [if_neg hn0]
                              simp only [stch]
                              rw [if_pos ⟨by omega, hab⟩, if_neg (show ¬ 0 < ((p2 * km + p3 * mn) - (p2 * km + p3 * mn) / nI (cb (rsd (rr (ix p1))) 10) * nI (cb (rsd (rr (ix p1))) 10)) - nI (cb (rsd (rr (ix p1))) i) by rw [← ha_l]; exact Int32.not_lt.mpr c_70)]
                              rw [Int32.add_zero]
                            refine wy_iast hx hb hK hw hq.2.2.2.2.2.2.2.1 (10 * (ix p1) + i) nx_68 (by omega) (by omega) dX2_drive_187 (fun H locs f_73 hs_74 hn_75 hw => ?_)
                            have hc_76 := wy_c.ne2 hq.1 hn_75 (hd1 6 (by decide))
                            have hc_77 := wy_c.ne2 hq.2.1 hn_75 (hd2 0 6 (by decide) (by decide) (by decide))
                            have hc_78 := wy_c.ne2 hq.2.2.1 hn_75 (hd2 1 6 (by decide) (by decide) (by decide))
                            have hc_79 := wy_c.ne2 hq.2.2.2.1 hn_75 (hd2 2 6 (by decide) (by decide) (by decide))
                            have hc_80 := wy_c.ne2 hq.2.2.2.2.1 hn_75 (hd2 3 6 (by decide) (by decide) (by decide))
                            have hc_81 := wy_c.ne2 hq.2.2.2.2.2.1 hn_75 (hd2 4 6 (by decide) (by decide) (by decide))
                            have hc_82 := wy_c.ne2 hq.2.2.2.2.2.2.1 hn_75 (hd2 5 6 (by decide) (by decide) (by decide))
                            have hc_83 := wy_c.ne2 hq.2.2.2.2.2.2.2.2.1 hn_75 (hd2 7 6 (by decide) (by decide) (by decide))
                            have hc_84 := wy_c.ne2 hq.2.2.2.2.2.2.2.2.2.1 hn_75 (hd2 8 6 (by decide) (by decide) (by decide))
                            have hc_85 := wy_c.ne2 hq.2.2.2.2.2.2.2.2.2.2.1 hn_75 (hd2 9 6 (by decide) (by decide) (by decide))
                            rw [arr_t g6 (ix p1) (stchg (rsd (rr (ix p1))) (rch (rr (ix p1))) (p2 * km + p3 * mn)) i hz] at hs_74
                            have hq : wm_S G L f_73 om ma n km mn wk 0 g0 g1 (upd g2 (ix p1) (rmi (rr (ix p1)) + p3)) g3 (upd g4 (ix p1) 1) g5 (arr g6 (ix p1) (stchg (rsd (rr (ix p1))) (rch (rr (ix p1))) (p2 * km + p3 * mn)) (i + 1)) g7 g8 g9 := ⟨hc_76, hc_77, hc_78, hc_79, hc_80, hc_81, hc_82, hs_74, hc_83, hc_84, hc_85, hd1, hd2, hn, hwk⟩
                            obtain ⟨x_86, ex_86⟩ : ∃ y : Int32, y = a_l + (-1) := ⟨_, rfl⟩
                            refine lv_iinc (v := x_86) (lv' := [(7, .int x_86), (8, .int xi_i), (6, .int (p2 * km + p3 * mn)), (5, .int (nI (cb (rsd (rr (ix p1))) 10))), (4, .int 1), (0, .ref om), (1, .int p1), (2, .int p2), (3, .int p3)]) hx hb dX2_drive_188 hl (k := 1) rfl (by rw [ex_86]; rfl) (by decide) rfl (fun ls hl => ?_)
                            obtain ⟨x_87, ex_87⟩ : ∃ y : Int32, y = xi_i + 1 := ⟨_, rfl⟩
                            have nx_87 : x_87 = nI (i + 1) := by rw [ex_87, ei_i, nI_1]
                            refine lv_iinc (v := x_87) (lv' := [(8, .int x_87), (7, .int x_86), (6, .int (p2 * km + p3 * mn)), (5, .int (nI (cb (rsd (rr (ix p1))) 10))), (4, .int 1), (0, .ref om), (1, .int p1), (2, .int p2), (3, .int p3)]) hx hb dX2_drive_191 hl (k := 1) rfl (by rw [ex_87]; rfl) (by decide) rfl (fun ls hl => ?_)
                            refine lv_goto (tgt := 139) hx hb dX2_drive_194 (by decide) ?_
                            exact ih_d (i + 1) (by omega) _ nx_87 _ (by rw [ex_86, ha_l]; exact cb_dec _ _ _ hab) _ _ _ hw hq ls (lv_sub hl [0, 1, 2, 3, 4, 5, 6, 7, 8] rfl)
                          · refine lv_iconst (v := 1) hx hb dX2_drive_180 (by decide) ?_
                            refine lv_goto (tgt := 185) hx hb dX2_drive_181 (by decide) ?_
                            refine lv_iadd hx hb dX2_drive_185 ?_
                            refine lv_topi (fun x_88 ex_88 => ?_)
                            refine lv_iadd hx hb dX2_drive_186 ?_
                            refine lv_topi (fun x_89 ex_89 => ?_)
                            have hz : x_89 = (stchg (rsd (rr (ix p1))) (rch (rr (ix p1))) (p2 * km + p3 * mn)) i := by
                              simp only [ex_54, ex_55, ex_67, ex_68, ex_69, ex_88, ex_89, stchg]
                              rw [if_neg hn0]
                              simp only [stch]
                              rw [if_pos ⟨by omega, hab⟩, if_pos (show 0 < ((p2 * km + p3 * mn) - (p2 * km + p3 * mn) / nI (cb (rsd (rr (ix p1))) 10) * nI (cb (rsd (rr (ix p1))) 10)) - nI (cb (rsd (rr (ix p1))) i) by rw [← ha_l]; exact Int32.not_le.mp c_70)]
                            refine wy_iast hx hb hK hw hq.2.2.2.2.2.2.2.1 (10 * (ix p1) + i) nx_68 (by omega) (by omega) dX2_drive_187 (fun H locs f_90 hs_91 hn_92 hw => ?_)
                            have hc_93 := wy_c.ne2 hq.1 hn_92 (hd1 6 (by decide))
                            have hc_94 := wy_c.ne2 hq.2.1 hn_92 (hd2 0 6 (by decide) (by decide) (by decide))
                            have hc_95 := wy_c.ne2 hq.2.2.1 hn_92 (hd2 1 6 (by decide) (by decide) (by decide))
                            have hc_96 := wy_c.ne2 hq.2.2.2.1 hn_92 (hd2 2 6 (by decide) (by decide) (by decide))
                            have hc_97 := wy_c.ne2 hq.2.2.2.2.1 hn_92 (hd2 3 6 (by decide) (by decide) (by decide))
                            have hc_98 := wy_c.ne2 hq.2.2.2.2.2.1 hn_92 (hd2 4 6 (by decide) (by decide) (by decide))
                            have hc_99 := wy_c.ne2 hq.2.2.2.2.2.2.1 hn_92 (hd2 5 6 (by decide) (by decide) (by decide))
                            have hc_100 := wy_c.ne2 hq.2.2.2.2.2.2.2.2.1 hn_92 (hd2 7 6 (by decide) (by decide) (by decide))
                            have hc_101 := wy_c.ne2 hq.2.2.2.2.2.2.2.2.2.1 hn_92 (hd2 8 6 (by decide) (by decide) (by decide))
                            have hc_102 := wy_c.ne2 hq.2.2.2.2.2.2.2.2.2.2.1 hn_92 (hd2 9 6 (by decide) (by decide) (by decide))
                            rw [arr_t g6 (ix p1) (stchg (rsd (rr (ix p1))) (rch (rr (ix p1))) (p2 * km + p3 * mn)) i hz] at hs_91
                            have hq : wm_S G L f_90 om ma n km mn wk 0 g0 g1 (upd g2 (ix p1) (rmi (rr (ix p1)) + p3)) g3 (upd g4 (ix p1) 1) g5 (arr g6 (ix p1) (stchg (rsd (rr (ix p1))) (rch (rr (ix p1))) (p2 * km + p3 * mn)) (i + 1)) g7 g8 g9 := ⟨hc_93, hc_94, hc_95, hc_96, hc_97, hc_98, hc_99, hs_91, hc_100, hc_101, hc_102, hd1, hd2, hn, hwk⟩
                            obtain ⟨x_103, ex_103⟩ : ∃ y : Int32, y = a_l + (-1) := ⟨_, rfl⟩
                            refine lv_iinc (v := x_103) (lv' := [(7, .int x_103), (8, .int xi_i), (6, .int (p2 * km + p3 * mn)), (5, .int (nI (cb (rsd (rr (ix p1))) 10))), (4, .int 1), (0, .ref om), (1, .int p1), (2, .int p2), (3, .int p3)]) hx hb dX2_drive_188 hl (k := 1) rfl (by rw [ex_103]; rfl) (by decide) rfl (fun ls hl => ?_)
                            obtain ⟨x_104, ex_104⟩ : ∃ y : Int32, y = xi_i + 1 := ⟨_, rfl⟩
                            have nx_104 : x_104 = nI (i + 1) := by rw [ex_104, ei_i, nI_1]
                            refine lv_iinc (v := x_104) (lv' := [(8, .int x_104), (7, .int x_103), (6, .int (p2 * km + p3 * mn)), (5, .int (nI (cb (rsd (rr (ix p1))) 10))), (4, .int 1), (0, .ref om), (1, .int p1), (2, .int p2), (3, .int p3)]) hx hb dX2_drive_191 hl (k := 1) rfl (by rw [ex_104]; rfl) (by decide) rfl (fun ls hl => ?_)
                            refine lv_goto (tgt := 139) hx hb dX2_drive_194 (by decide) ?_
                            exact ih_d (i + 1) (by omega) _ nx_104 _ (by rw [ex_103, ha_l]; exact cb_dec _ _ _ hab) _ _ _ hw hq ls (lv_sub hl [0, 1, 2, 3, 4, 5, 6, 7, 8] rfl)
                  exact KK (10) 0 (by omega) _ rfl _ (Int32.sub_zero _).symm _ _ _ hw (by rw [arr_0]; exact hq) ls (lv_sub hl [0, 1, 2, 3, 4, 5, 6, 7, 8] rfl)
                · exact absurd c_57 c_53
              · have hn0 : (cb (rsd (rr (ix p1))) 10) = 0 := (nI_eq (Nat.lt_of_le_of_lt (cb_le _ _) (by decide)) (by decide)).mp c_53
                refine lv_iconst (v := 0) hx hb dX2_drive_101 (by decide) ?_
                refine lv_goto (tgt := 118) hx hb dX2_drive_102 (by decide) ?_
                refine lv_istore (lv' := [(6, .int 0), (5, .int (nI (cb (rsd (rr (ix p1))) 10))), (4, .int 1), (0, .ref om), (1, .int p1), (2, .int p2), (3, .int p3)]) hx hb dX2_drive_118 hl (by decide) rfl (fun ls hl => ?_)
                refine lv_iload hx hb dX2_drive_120 (lv_at hl 1 rfl) ?_
                refine lv_if_ne (tgt := 129) hx hb dX2_drive_122 (by decide) (fun c_105 => ?_) (fun c_105 => ?_)
                · exact absurd c_53 c_105
                · refine lv_iconst (v := 0) hx hb dX2_drive_125 (by decide) ?_
                  refine lv_goto (tgt := 134) hx hb dX2_drive_126 (by decide) ?_
                  refine lv_istore (lv' := [(7, .int 0), (6, .int 0), (5, .int (nI (cb (rsd (rr (ix p1))) 10))), (4, .int 1), (0, .ref om), (1, .int p1), (2, .int p2), (3, .int p3)]) hx hb dX2_drive_134 hl (by decide) rfl (fun ls hl => ?_)
                  refine lv_iconst (v := 0) hx hb dX2_drive_136 (by decide) ?_
                  refine lv_istore (lv' := [(8, .int 0), (7, .int 0), (6, .int 0), (5, .int (nI (cb (rsd (rr (ix p1))) 10))), (4, .int 1), (0, .ref om), (1, .int p1), (2, .int p2), (3, .int p3)]) hx hb dX2_drive_137 hl (by decide) rfl (fun ls hl => ?_)
                  have KK : ∀ (d i : Nat), i + d = 10 → ∀ (xi_i : Int32), xi_i = nI (i) → ∀ (a_l : Int32), a_l = a_l → ∀ (H : Heap) (locs : List Loc) (fc : Nat → va_E), wy_H G L fc (wy_A L s.heap.size) s.heap H locs → wm_S G L fc om ma n km mn wk 0 g0 g1 (upd g2 (ix p1) (rmi (rr (ix p1)) + p3)) g3 (upd g4 (ix p1) 1) g5 (arr g6 (ix p1) (stchg (rsd (rr (ix p1))) (rch (rr (ix p1))) (p2 * km + p3 * mn)) i) g7 g8 g9 → ∀ ls : Array Slot, lv_has ls 9 [(8, .int xi_i), (7, .int a_l), (6, .int 0), (5, .int (nI (cb (rsd (rr (ix p1))) 10))), (4, .int 1), (0, .ref om), (1, .int p1), (2, .int p2), (3, .int p3)] → W p l e (headSpec wsX2_drive ({ frames := 2, cells := 0, slots := 0, locals := 43 } : Room)).room s m ([.ref om, .int p1, .int p2, .int p3] : List Value).toArray below meth c H locs 0 0 (MQ below (wy_Q G (wm_p G L om ma (if dvC n p1 p2 p3 (rfi (rr (ix p1))) = 0 then n else n) (if dvC n p1 p2 p3 (rfi (rr (ix p1))) = 0 then km else km) (if dvC n p1 p2 p3 (rfi (rr (ix p1))) = 0 then mn else mn) (if dvC n p1 p2 p3 (rfi (rr (ix p1))) = 0 then wk else wk) (if dvC n p1 p2 p3 (rfi (rr (ix p1))) = 0 then po else po) (if dvC n p1 p2 p3 (rfi (rr (ix p1))) = 0 then va_up rr (ix p1) (vStr (rr (ix p1)) (p2 * km + p3 * mn) p3) else rr) (dvC n p1 p2 p3 (rfi (rr (ix p1)))) (some (.int (if dvC n p1 p2 p3 (rfi (rr (ix p1))) = 0 then if (cb (rsd (rr (ix p1))) 10) = 0 then 0 else (p2 * km + p3 * mn) else 0)))) (wy_A L s.heap.size)) ([.ref om, .int p1, .int p2, .int p3] : List Value).toArray s 0 0 (wy_A L s.heap.size)) (F0 m 139 ls []) := by
                    intro d
                    induction d with
                    | zero =>
                      intro i hd_i xi_i ei_i a_l ha_l H locs fc hw hq ls hl
                      refine lv_iload hx hb dX2_drive_139 (lv_at hl 0 rfl) ?_
                      refine lv_bipush (v := 10) hx hb dX2_drive_141 (by decide) ?_
                      refine lv_icmp_ge (tgt := 197) hx hb dX2_drive_143 (by decide) (fun c_106 => ?_) (fun c_106 => ?_)
                      · have nc_106 : 10 ≤ i := (wy_ge ei_i (rfl : (10 : Int32) = nI 10) (by first | omega | exact hsN _ _ | exact hdN _ _ | exact Nat.lt_of_le_of_lt (cb_le _ _) (by omega)) (by decide)).mp c_106
                        obtain rfl : 10 = i := by omega
                        obtain ⟨g2_107, eg2_107⟩ : ∃ z, z = (upd g2 (ix p1) (rmi (rr (ix p1)) + p3)) := ⟨_, rfl⟩
                        have hg2_107 : wy_c L fc (ma 2) (.inl (G.2 0, 40, .inl g2_107)) := by rw [eg2_107]; exact hq.2.2.2.1
                        obtain ⟨g4_108, eg4_108⟩ : ∃ z, z = (upd g4 (ix p1) 1) := ⟨_, rfl⟩
                        have hg4_108 : wy_c L fc (ma 4) (.inl (G.2 1, 40, .inl g4_108)) := by rw [eg4_108]; exact hq.2.2.2.2.2.1
                        obtain ⟨g6_109, eg6_109⟩ : ∃ z, z = (arr g6 (ix p1) (stchg (rsd (rr (ix p1))) (rch (rr (ix p1))) (p2 * km + p3 * mn)) 10) := ⟨_, rfl⟩
                        have hg6_109 : wy_c L fc (ma 6) (.inl (G.2 0, 400, .inl g6_109)) := by rw [eg6_109]; exact hq.2.2.2.2.2.2.2.1
                        have hq : wm_S G L fc om ma n km mn wk 0 g0 g1 g2_107 g3 g4_108 g5 g6_109 g7 g8 g9 := ⟨hq.1, hq.2.1, hq.2.2.1, hg2_107, hq.2.2.2.2.1, hg4_108, hq.2.2.2.2.2.2.1, hg6_109, hq.2.2.2.2.2.2.2.2.1, hq.2.2.2.2.2.2.2.2.2.1, hq.2.2.2.2.2.2.2.2.2.2.1, hd1, hd2, (by omega), (by omega)⟩
                        have hm : wm_r po (va_up rr (ix p1) (vStr (rr (ix p1)) (p2 * km + p3 * mn) p3)) g0 g1 g2_107 g3 g4_108 g5 g6_109 g7 g8 g9 := by rw [eg2_107, eg4_108, eg6_109]; exact (by rw [e3]; exact wm_str hm (hi _ hk40) (by omega) hk40 hmi1 hmi2 hfinx (mny2 (hi _ hk40) hfinx))
                        refine lv_iload hx hb dX2_drive_197 (lv_at hl 2 rfl) ?_
                        exact wy_iW hx hb hr hlocks dX2_drive_199 hw (Nat.le_of_ble_eq_true rfl) (Nat.le_of_ble_eq_true rfl) (wm_ok (by simp [dvC, bc_2, bc_11, bc_20, bc_21, bc_22]) (by rw [if_pos hn0]) hq hm)
                      · have nc_106 : ¬ (10 ≤ i) := fun z => c_106 ((wy_ge ei_i (rfl : (10 : Int32) = nI 10) (by first | omega | exact hsN _ _ | exact hdN _ _ | exact Nat.lt_of_le_of_lt (cb_le _ _) (by omega)) (by decide)).mpr z)
                        exact absurd nc_106 (by omega)
                    | succ d ih_d =>
                      intro i hd_i xi_i ei_i a_l ha_l H locs fc hw hq ls hl
                      refine lv_iload hx hb dX2_drive_139 (lv_at hl 0 rfl) ?_
                      refine lv_bipush (v := 10) hx hb dX2_drive_141 (by decide) ?_
                      refine lv_icmp_ge (tgt := 197) hx hb dX2_drive_143 (by decide) (fun c_110 => ?_) (fun c_110 => ?_)
                      · have nc_110 : 10 ≤ i := (wy_ge ei_i (rfl : (10 : Int32) = nI 10) (by first | omega | exact hsN _ _ | exact hdN _ _ | exact Nat.lt_of_le_of_lt (cb_le _ _) (by omega)) (by decide)).mp c_110
                        exact absurd nc_110 (by omega)
                      · have nc_110 : ¬ (10 ≤ i) := fun z => c_110 ((wy_ge ei_i (rfl : (10 : Int32) = nI 10) (by first | omega | exact hsN _ _ | exact hdN _ _ | exact Nat.lt_of_le_of_lt (cb_le _ _) (by omega)) (by decide)).mpr z)
                        refine lv_aload_n hx hb dX2_drive_146 rfl (lv_at hl 5 rfl) ?_
                        refine lv_iload_n hx hb dX2_drive_147 rfl (lv_at hl 6 rfl) ?_
                        refine lv_iload hx hb dX2_drive_148 (lv_at hl 0 rfl) ?_
                        refine vp_callSi (W.runV (As := [.int p1, .int xi_i]) (rest := []) ⟨hx, hb, hml, hown, hts⟩ (m_X2_atR l hq (p1) ((ix p1)) (by omega) e1 (xi_i) (i) (by omega) ei_i (nI (stN (rr (ix p1)) i)) (((hm.1 (ix p1) hk40).2.2.2.2.2 i (by omega)).1)) (cwV 2 hts gX2_drive_X2_at rfl rfl rfl (by decide +kernel) ⟨Nat.le_of_ble_eq_true rfl, Nat.le_of_ble_eq_true rfl⟩) (wy_pVR hK hw.1 hq.1 rfl) rfl rfl hl.1 rfl (lv_room (Nat.le_of_ble_eq_true rfl)) dX2_drive_150 ⟨Nat.le_of_ble_eq_true rfl, Nat.le_of_ble_eq_true rfl⟩) (fun r_111 er_111 => ?_)
                        refine lv_iconst (v := 2) hx hb dX2_drive_153 (by decide) ?_
                        refine lv_icmp_ne (tgt := 191) hx hb dX2_drive_154 (by decide) (fun c_112 => ?_) (fun c_112 => ?_)
                        · have nc_112 : ¬ (stN (rr (ix p1)) i = 2) := fun z => c_112 ((wy_eq er_111 (rfl : (2 : Int32) = nI 2) (by first | omega | exact hsN _ _ | exact hdN _ _ | exact Nat.lt_of_le_of_lt (cb_le _ _) (by omega)) (by decide)).mpr z)
                          have hab : rsd (rr (ix p1)) i = false := by
                            cases h : rsd (rr (ix p1)) i with
                            | false => rfl
                            | true => exact absurd ((stN2 (hi _ hk40) (by omega) hfinx).mpr h) nc_112
                          obtain ⟨x_113, ex_113⟩ : ∃ y : Int32, y = xi_i + 1 := ⟨_, rfl⟩
                          have nx_113 : x_113 = nI (i + 1) := by rw [ex_113, ei_i, nI_1]
                          refine lv_iinc (v := x_113) (lv' := [(8, .int x_113), (7, .int a_l), (6, .int 0), (5, .int (nI (cb (rsd (rr (ix p1))) 10))), (4, .int 1), (0, .ref om), (1, .int p1), (2, .int p2), (3, .int p3)]) hx hb dX2_drive_191 hl (k := 0) rfl (by rw [ex_113]; rfl) (by decide) rfl (fun ls hl => ?_)
                          refine lv_goto (tgt := 139) hx hb dX2_drive_194 (by decide) ?_
                          exact ih_d (i + 1) (by omega) _ nx_113 _ rfl _ _ _ hw (by rw [← arr_f g6 (ix p1) (stchg (rsd (rr (ix p1))) (rch (rr (ix p1))) (p2 * km + p3 * mn)) i (by rw [((hm.1 (ix p1) hk40).2.2.2.2.2 i (by omega)).2.1]; simp only [stchg]; rw [if_pos hn0])]; exact hq) ls (lv_sub hl [0, 1, 2, 3, 4, 5, 6, 7, 8] rfl)
                        · have nc_112 : stN (rr (ix p1)) i = 2 := (wy_eq er_111 (rfl : (2 : Int32) = nI 2) (by first | omega | exact hsN _ _ | exact hdN _ _ | exact Nat.lt_of_le_of_lt (cb_le _ _) (by omega)) (by decide)).mp c_112
                          have hab : rsd (rr (ix p1)) i = true := (stN2 (hi _ hk40) (by omega) hfinx).mp nc_112
                          exact absurd hn0 (Nat.ne_of_gt (cb_pos _ hab 10 (by omega)))
                  exact KK (10) 0 (by omega) _ rfl _ rfl _ _ _ hw (by rw [arr_0]; exact hq) ls (lv_sub hl [0, 1, 2, 3, 4, 5, 6, 7, 8] rfl)
            · exact absurd rfl c_24
          · have bc_22 : (rfi (rr (ix p1))) = true := bI_1 (fun z => c_22 (rfl.trans z))
            refine lv_iconst (v := 3) hx hb dX2_drive_58 (by decide) ?_
            refine lv_goto (tgt := 63) hx hb dX2_drive_59 (by decide) ?_
            refine wy_call (va_runV (As := [.int 3]) (rest := []) ⟨hx, hb, hml, hown, hts⟩ (m_X2_fails l hq (3)) (cwV 1 hts gX2_drive_X2_fails rfl rfl rfl (by decide +kernel) ⟨Nat.le_of_ble_eq_true rfl, Nat.le_of_ble_eq_true rfl⟩) (wy_pVW hK hw hq.1 rfl) rfl rfl hl.1 rfl (lv_room (Nat.le_of_ble_eq_true rfl)) dX2_drive_63 ⟨Nat.le_of_ble_eq_true rfl, Nat.le_of_ble_eq_true rfl⟩) hw hA (fun rw_114 Lw_114 fw_114 H locs hpost hw => ?_)
            obtain ⟨er_114, eL_114, hq⟩ := hpost
            subst er_114
            obtain rfl := eL_114.symm
            rw [show bI (decide ((0 : Int32) < 3)) = 1 from rfl]
            refine lv_if_eq (tgt := 71) hx hb dX2_drive_66 (by decide) (fun c_115 => ?_) (fun c_115 => ?_)
            · exact absurd c_115 (by decide)
            · have bc_115 : (true) = true := bI_1 (fun z => c_115 (rfl.trans z))
              refine lv_iconst (v := 0) hx hb dX2_drive_69 (by decide) ?_
              exact wy_iW hx hb hr hlocks dX2_drive_70 hw (Nat.le_of_ble_eq_true rfl) (Nat.le_of_ble_eq_true rfl) (wm_no (by simp [dvC, bc_2, bc_11, bc_20, bc_21, bc_22, bc_115]) (by decide) hq hm)
        · exact absurd c_21 (by decide)
      · have bc_20 : (okN n p1) = false := bI_0 (er_19.symm.trans c_20)
        refine lv_iconst (v := 1) hx hb dX2_drive_36 (by decide) ?_
        refine lv_goto (tgt := 63) hx hb dX2_drive_37 (by decide) ?_
        refine wy_call (va_runV (As := [.int 1]) (rest := []) ⟨hx, hb, hml, hown, hts⟩ (m_X2_fails l hq (1)) (cwV 1 hts gX2_drive_X2_fails rfl rfl rfl (by decide +kernel) ⟨Nat.le_of_ble_eq_true rfl, Nat.le_of_ble_eq_true rfl⟩) (wy_pVW hK hw hq.1 rfl) rfl rfl hl.1 rfl (lv_room (Nat.le_of_ble_eq_true rfl)) dX2_drive_63 ⟨Nat.le_of_ble_eq_true rfl, Nat.le_of_ble_eq_true rfl⟩) hw hA (fun rw_116 Lw_116 fw_116 H locs hpost hw => ?_)
        obtain ⟨er_116, eL_116, hq⟩ := hpost
        subst er_116
        obtain rfl := eL_116.symm
        rw [show bI (decide ((0 : Int32) < 1)) = 1 from rfl]
        refine lv_if_eq (tgt := 71) hx hb dX2_drive_66 (by decide) (fun c_117 => ?_) (fun c_117 => ?_)
        · exact absurd c_117 (by decide)
        · have bc_117 : (true) = true := bI_1 (fun z => c_117 (rfl.trans z))
          refine lv_iconst (v := 0) hx hb dX2_drive_69 (by decide) ?_
          exact wy_iW hx hb hr hlocks dX2_drive_70 hw (Nat.le_of_ble_eq_true rfl) (Nat.le_of_ble_eq_true rfl) (wm_no (by simp [dvC, bc_2, bc_11, bc_20, bc_117]) (by decide) hq hm)
