def wo_p (G : wy_G) (L : List Nat) (f : Nat → va_E) (ox lo n : Nat) (km mn : Int32) (wk : Nat) (po : Nat → Int32) (rr : Nat → wr_V) (V : Int64) (C : Int32) : Int32 → List Nat → (Nat → va_E) → Int64 → Prop := fun C' L' f' v => C' = C ∧ (C = 0 → v = V ∧ ∃ ra ar, wx_S G L' f' ox lo ra ar n km mn wk po rr) ∧ (¬ C = 0 → L' = L ∧ f' = f)
theorem wo_pX {p : Program} {s : State} {H : Heap} {locs : List Loc} {A : Nat → Prop} {G : wy_G} {L : List Nat} {f : Nat → va_E} {a : Nat} {C : String} {T : u_T} {N ci : Nat} {fs As : List Value} (hK : wy_K G s) (hE : wt_E A s) (hZ : wl_E G A s) (hw : wy_H G L f A s.heap H locs) (hA : ∀ q, s.heap.size ≤ q → A q) (he : wy_c L f a (.inr (ci, fs))) (hc : vwCl[ci]? = some (C, T, N)) : PreV s H C a (va_Pc (.ref a :: As) (wt_Q G L f H.size)) As :=
  ⟨fun a U g mk q => by
    obtain ⟨q0, ⟨⟨q1, qP, qK, qD⟩, qE⟩, qZ⟩ := q
    exact ⟨q0, ⟨⟨q1, qP, wy_K.moved (u := U) (U := U.calling g mk a) (Vm.Alike.refl U.vm) qK, qD⟩, qE.calling⟩, qZ.calling⟩, wy_recv hK hw.1 he hc, fun U hU hW => ⟨rfl, ⟨wy_toW hK hw hU hW, hE.at hw.2.2 hU hW (hw.sub hA)⟩, hZ.at hw.2.2 hU hW (hw.sub hA)⟩⟩
set_option maxHeartbeats 4000000 in
set_option maxRecDepth 100000 in
theorem m_L_book (l : Launch) (hnt : l.stackTraces = false) {G : wy_G} {L : List Nat} {f : Nat → va_E} {sz oo : Nat} {ox lo : Nat} {ra ar : Nat → Nat} {n : Nat} {km mn : Int32} {wk : Nat} {po : Nat → Int32} {rr : Nat → wr_V} (hq : wx_S G L f ox lo ra ar n km mn wk po rr) (p1 p2 : Int32) : vx_Met l yL_book wsL_book ({ frames := 9, cells := 4, slots := 24, locals := 149 } : Room) (va_Pc [.ref ox, .int p1, .int p2, .ref oo] (wo_P G L f oo sz)) (wo_Q G L oo sz (wo_p G L f ox lo n km mn wk po (va_up rr (ix p1) (vBook (rr (ix p1)) (ix p2))) (((freeR (vBook (rr (ix p1)) (ix p2)))).toInt64) (rdC n p1 p2 (bkB (rr (ix p1)) (ix p2))))) (fun _ _ _ => False) 4 24 (wy_A (L ++ [oo]) sz) := by
  refine vx_ofWH (cc := cL_book) (maxL := 5) (ret := (some .int)) (hh := [(0, 10, 13, 19), (0, 10, 17, 21)]) (by decide) rfl ?_
  intro p e s m args below meth c s₁ B hml hv
  obtain ⟨rfl, hP⟩ := hv
  obtain ⟨hw, hK, hA, hAo⟩ := wo_start hP
  obtain ⟨hv, hE, hZ, hN, hoo, hos, fo, hO⟩ := hP
  have hsz := hv.1
  subst hsz
  have hx := B.exec
  have hb := B.bytes
  have hr := B.returns
  have hts := atoms_spec (ws := wsL_book) B.pre
  have hown : s.vm.findClass RL = some m.cls := findClass_of_methodNamed B.named
  have hlocks := B.notSynchronized
  have htab := vx_table (x := yL_book) B (hts (.codeWith yL_book cL_book 5 (some .int) [(0, 10, 13, 19), (0, 10, 17, 21)]) List.mem_cons_self)
  have hl := lv_entry ([.ref ox, .int p1, .int p2, .ref oo]) (n := 5) (Nat.le_of_ble_eq_true rfl)
  rw [lg_entry_eq]
  generalize (lg_sl ([.ref ox, .int p1, .int p2, .ref oo]) ++ List.replicate (5 - (lg_sl ([.ref ox, .int p1, .int p2, .ref oo])).length) Slot.unset).toArray = ls at hl ⊢
  have hl : lv_has ls 5 [(0, .ref ox), (1, .int p1), (2, .int p2), (3, .ref oo)] := hl
  refine lv_aload_n hx hb dL_book_0 rfl (lv_at hl 3 rfl) ?_
  refine lv_iconst (v := 0) hx hb dL_book_1 (by decide) ?_
  refine lv_aload_n hx hb dL_book_2 rfl (lv_at hl 0 rfl) ?_
  refine lv_iload_n hx hb dL_book_3 rfl (lv_at hl 1 rfl) ?_
  refine lv_iload_n hx hb dL_book_4 rfl (lv_at hl 2 rfl) ?_
  refine wo_call (vx_runV (As := [.int p1, .int p2]) (rest := [.int 0, .ref oo]) ⟨hx, hb, hml, hown, hts⟩ (m_X1_book l hnt hq (p1) (p2)) (cwV 2 hts gL_book_X1_book rfl rfl rfl (by decide +kernel) ⟨Nat.le_of_ble_eq_true rfl, Nat.le_of_ble_eq_true rfl⟩) (wt_pV hK hE hw hA hq.1 rfl) rfl rfl hl.1 rfl (lv_room (Nat.le_of_ble_eq_true rfl)) dL_book_5 ⟨Nat.le_of_ble_eq_true rfl, Nat.le_of_ble_eq_true rfl⟩) hw hA hoo hos hO (fun E ce q H locs hpE hw hO hcell hcv hcl => ?_) (fun rw_1 Lw_1 fw_1 H locs hpost hw hooN hO => ?_)
  · rcases hpE with ⟨rfl, hC⟩ | ⟨rfl, hC⟩
    · refine vx_catch (own := RL) hown [] ⟨0, 10, 13, 19⟩ [⟨0, 10, 17, 21⟩] (htab.trans rfl) (fun z hz => absurd hz List.not_mem_nil) (by decide) (by decide) (hts (.classLink RL 19 "java/lang/IndexOutOfBoundsException") (by decide +kernel)) (va_Nw.use rfl (hE.2.2.1 _ (by decide))) hcell hcv hcl ?_
      refine lv_astore (lv' := [(4, .ref q), (0, .ref ox), (1, .int p1), (2, .int p2), (3, .ref oo)]) hx hb dL_book_13 hl (by decide) rfl (fun ls hl => ?_)
      refine lv_iconst (v := 1) hx hb dL_book_15 (by decide) ?_
      exact wo_ret hx hb hr hlocks dL_book_16 hw hO hoo (Nat.le_of_ble_eq_true rfl) (Nat.le_of_ble_eq_true rfl) ⟨hC.symm, fun z => absurd (hC.symm.trans z) (by decide), fun _ => ⟨rfl, rfl⟩⟩
    · refine vx_catch (own := RL) hown [⟨0, 10, 13, 19⟩] ⟨0, 10, 17, 21⟩ [] (htab.trans rfl) (fun z hz => by rw [List.mem_singleton.mp hz]; exact Or.inr ⟨by decide, _, hts (.classLink RL 19 "java/lang/IndexOutOfBoundsException") (by decide +kernel), hN.1⟩) (by decide) (by decide) (hts (.classLink RL 21 "java/lang/IllegalStateException") (by decide +kernel)) (va_Nw.use rfl (hE.2.2.1 _ (by decide))) hcell hcv hcl ?_
      refine lv_astore (lv' := [(4, .ref q), (0, .ref ox), (1, .int p1), (2, .int p2), (3, .ref oo)]) hx hb dL_book_17 hl (by decide) rfl (fun ls hl => ?_)
      refine lv_iconst (v := 2) hx hb dL_book_19 (by decide) ?_
      exact wo_ret hx hb hr hlocks dL_book_20 hw hO hoo (Nat.le_of_ble_eq_true rfl) (Nat.le_of_ble_eq_true rfl) ⟨hC.symm, fun z => absurd (hC.symm.trans z) (by decide), fun _ => ⟨rfl, rfl⟩⟩
  obtain ⟨hC, er, ra2, ar2, hS⟩ := hpost
  subst er
  refine lv_i2l (v := (freeR (vBook (rr (ix p1)) (ix p2))).toInt64) hx hb dL_book_8 rfl ?_
  refine wo_last hx hb hK hw hO hooN hAo dL_book_9 (fun H locs fo1 hfo hO hw => ?_)
  refine lv_goto (tgt := 21) hx hb dL_book_10 (by decide) ?_
  refine lv_iconst (v := 0) hx hb dL_book_21 (by decide) ?_
  exact wo_ret hx hb hr hlocks dL_book_22 hw hO hooN (Nat.le_of_ble_eq_true rfl) (Nat.le_of_ble_eq_true rfl) ⟨hC.symm, fun _ => ⟨hfo, ra2, ar2, hS⟩, fun z => absurd hC z⟩
set_option maxHeartbeats 4000000 in
set_option maxRecDepth 100000 in
theorem m_L_start (l : Launch) (hnt : l.stackTraces = false) {G : wy_G} {L : List Nat} {f : Nat → va_E} {sz oo : Nat} {ox lo : Nat} {ra ar : Nat → Nat} {n : Nat} {km mn : Int32} {wk : Nat} {po : Nat → Int32} {rr : Nat → wr_V} (hq : wx_S G L f ox lo ra ar n km mn wk po rr) (p1 : Int32) : vx_Met l yL_start wsL_start ({ frames := 8, cells := 5, slots := 100, locals := 192 } : Room) (va_Pc [.ref ox, .int p1, .ref oo] (wo_P G L f oo sz)) (wo_Q G L oo sz (wo_p G L f ox lo (n + 1) km mn wk po (va_up rr n (vNew p1 (nI wk))) (((nI n)).toInt64) (stC rr n p1))) (fun _ _ _ => False) 5 100 (wy_A (L ++ [oo]) sz) := by
  refine vx_ofWH (cc := cL_start) (maxL := 4) (ret := (some .int)) (hh := [(0, 9, 12, 19), (0, 9, 15, 21)]) (by decide) rfl ?_
  intro p e s m args below meth c s₁ B hml hv
  obtain ⟨rfl, hP⟩ := hv
  obtain ⟨hw, hK, hA, hAo⟩ := wo_start hP
  obtain ⟨hv, hE, hZ, hN, hoo, hos, fo, hO⟩ := hP
  have hsz := hv.1
  subst hsz
  have hx := B.exec
  have hb := B.bytes
  have hr := B.returns
  have hts := atoms_spec (ws := wsL_start) B.pre
  have hown : s.vm.findClass RL = some m.cls := findClass_of_methodNamed B.named
  have hlocks := B.notSynchronized
  have htab := vx_table (x := yL_start) B (hts (.codeWith yL_start cL_start 4 (some .int) [(0, 9, 12, 19), (0, 9, 15, 21)]) List.mem_cons_self)
  have hl := lv_entry ([.ref ox, .int p1, .ref oo]) (n := 4) (Nat.le_of_ble_eq_true rfl)
  rw [lg_entry_eq]
  generalize (lg_sl ([.ref ox, .int p1, .ref oo]) ++ List.replicate (4 - (lg_sl ([.ref ox, .int p1, .ref oo])).length) Slot.unset).toArray = ls at hl ⊢
  have hl : lv_has ls 4 [(0, .ref ox), (1, .int p1), (2, .ref oo)] := hl
  refine lv_aload_n hx hb dL_start_0 rfl (lv_at hl 2 rfl) ?_
  refine lv_iconst (v := 0) hx hb dL_start_1 (by decide) ?_
  refine lv_aload_n hx hb dL_start_2 rfl (lv_at hl 0 rfl) ?_
  refine lv_iload_n hx hb dL_start_3 rfl (lv_at hl 1 rfl) ?_
  refine wo_call (vx_runV (As := [.int p1]) (rest := [.int 0, .ref oo]) ⟨hx, hb, hml, hown, hts⟩ (m_X1_start l hnt hq (p1)) (cwV 1 hts gL_start_X1_start rfl rfl rfl (by decide +kernel) ⟨Nat.le_of_ble_eq_true rfl, Nat.le_of_ble_eq_true rfl⟩) (wo_pX (p := p) hK hE hZ hw hA hq.1 rfl) rfl rfl hl.1 rfl (lv_room (Nat.le_of_ble_eq_true rfl)) dL_start_4 ⟨Nat.le_of_ble_eq_true rfl, Nat.le_of_ble_eq_true rfl⟩) hw hA hoo hos hO (fun E ce q H locs hpE hw hO hcell hcv hcl => ?_) (fun rw_1 Lw_1 fw_1 H locs hpost hw hooN hO => ?_)
  · rcases hpE with ⟨rfl, hC⟩ | ⟨rfl, hC⟩
    · refine vx_catch (own := RL) hown [] ⟨0, 9, 12, 19⟩ [⟨0, 9, 15, 21⟩] (htab.trans rfl) (fun z hz => absurd hz List.not_mem_nil) (by decide) (by decide) (hts (.classLink RL 19 "java/lang/IndexOutOfBoundsException") (by decide +kernel)) (va_Nw.use rfl (hE.2.2.1 _ (by decide))) hcell hcv hcl ?_
      refine lv_astore_n (lv' := [(3, .ref q), (0, .ref ox), (1, .int p1), (2, .ref oo)]) hx hb dL_start_12 rfl hl (by decide) rfl (fun ls hl => ?_)
      refine lv_iconst (v := 1) hx hb dL_start_13 (by decide) ?_
      exact wo_ret hx hb hr hlocks dL_start_14 hw hO hoo (Nat.le_of_ble_eq_true rfl) (Nat.le_of_ble_eq_true rfl) ⟨hC.symm, fun z => absurd (hC.symm.trans z) (by decide), fun _ => ⟨rfl, rfl⟩⟩
    · refine vx_catch (own := RL) hown [⟨0, 9, 12, 19⟩] ⟨0, 9, 15, 21⟩ [] (htab.trans rfl) (fun z hz => by rw [List.mem_singleton.mp hz]; exact Or.inr ⟨by decide, _, hts (.classLink RL 19 "java/lang/IndexOutOfBoundsException") (by decide +kernel), hN.1⟩) (by decide) (by decide) (hts (.classLink RL 21 "java/lang/IllegalStateException") (by decide +kernel)) (va_Nw.use rfl (hE.2.2.1 _ (by decide))) hcell hcv hcl ?_
      refine lv_astore_n (lv' := [(3, .ref q), (0, .ref ox), (1, .int p1), (2, .ref oo)]) hx hb dL_start_15 rfl hl (by decide) rfl (fun ls hl => ?_)
      refine lv_iconst (v := 2) hx hb dL_start_16 (by decide) ?_
      exact wo_ret hx hb hr hlocks dL_start_17 hw hO hoo (Nat.le_of_ble_eq_true rfl) (Nat.le_of_ble_eq_true rfl) ⟨hC.symm, fun z => absurd (hC.symm.trans z) (by decide), fun _ => ⟨rfl, rfl⟩⟩
  obtain ⟨hC, er, ra2, ar2, hS⟩ := hpost
  subst er
  refine lv_i2l (v := (nI n).toInt64) hx hb dL_start_7 rfl ?_
  refine wo_last hx hb hK hw hO hooN hAo dL_start_8 (fun H locs fo1 hfo hO hw => ?_)
  refine lv_goto (tgt := 18) hx hb dL_start_9 (by decide) ?_
  refine lv_iconst (v := 0) hx hb dL_start_18 (by decide) ?_
  exact wo_ret hx hb hr hlocks dL_start_19 hw hO hooN (Nat.le_of_ble_eq_true rfl) (Nat.le_of_ble_eq_true rfl) ⟨hC.symm, fun _ => ⟨hfo, ra2, ar2, hS⟩, fun z => absurd hC z⟩
set_option maxHeartbeats 4000000 in
set_option maxRecDepth 100000 in
theorem m_L_cancel (l : Launch) (hnt : l.stackTraces = false) {G : wy_G} {L : List Nat} {f : Nat → va_E} {sz oo : Nat} {ox lo : Nat} {ra ar : Nat → Nat} {n : Nat} {km mn : Int32} {wk : Nat} {po : Nat → Int32} {rr : Nat → wr_V} (hq : wx_S G L f ox lo ra ar n km mn wk po rr) (p1 p2 : Int32) : vx_Met l yL_cancel wsL_cancel ({ frames := 9, cells := 4, slots := 24, locals := 149 } : Room) (va_Pc [.ref ox, .int p1, .int p2, .ref oo] (wo_P G L f oo sz)) (wo_Q G L oo sz (wo_p G L f ox lo n km mn wk po (va_up rr (ix p1) (vDrop (rr (ix p1)) (ix p2))) (((feeR (rr (ix p1)))).toInt64) (rdC n p1 p2 (cnB (rr (ix p1)) (ix p2))))) (fun _ _ _ => False) 4 24 (wy_A (L ++ [oo]) sz) := by
  refine vx_ofWH (cc := cL_cancel) (maxL := 5) (ret := (some .int)) (hh := [(0, 10, 13, 19), (0, 10, 17, 21)]) (by decide) rfl ?_
  intro p e s m args below meth c s₁ B hml hv
  obtain ⟨rfl, hP⟩ := hv
  obtain ⟨hw, hK, hA, hAo⟩ := wo_start hP
  obtain ⟨hv, hE, hZ, hN, hoo, hos, fo, hO⟩ := hP
  have hsz := hv.1
  subst hsz
  have hx := B.exec
  have hb := B.bytes
  have hr := B.returns
  have hts := atoms_spec (ws := wsL_cancel) B.pre
  have hown : s.vm.findClass RL = some m.cls := findClass_of_methodNamed B.named
  have hlocks := B.notSynchronized
  have htab := vx_table (x := yL_cancel) B (hts (.codeWith yL_cancel cL_cancel 5 (some .int) [(0, 10, 13, 19), (0, 10, 17, 21)]) List.mem_cons_self)
  have hl := lv_entry ([.ref ox, .int p1, .int p2, .ref oo]) (n := 5) (Nat.le_of_ble_eq_true rfl)
  rw [lg_entry_eq]
  generalize (lg_sl ([.ref ox, .int p1, .int p2, .ref oo]) ++ List.replicate (5 - (lg_sl ([.ref ox, .int p1, .int p2, .ref oo])).length) Slot.unset).toArray = ls at hl ⊢
  have hl : lv_has ls 5 [(0, .ref ox), (1, .int p1), (2, .int p2), (3, .ref oo)] := hl
  refine lv_aload_n hx hb dL_cancel_0 rfl (lv_at hl 3 rfl) ?_
  refine lv_iconst (v := 0) hx hb dL_cancel_1 (by decide) ?_
  refine lv_aload_n hx hb dL_cancel_2 rfl (lv_at hl 0 rfl) ?_
  refine lv_iload_n hx hb dL_cancel_3 rfl (lv_at hl 1 rfl) ?_
  refine lv_iload_n hx hb dL_cancel_4 rfl (lv_at hl 2 rfl) ?_
  refine wo_call (vx_runV (As := [.int p1, .int p2]) (rest := [.int 0, .ref oo]) ⟨hx, hb, hml, hown, hts⟩ (m_X1_cancel l hnt hq (p1) (p2)) (cwV 2 hts gL_cancel_X1_cancel rfl rfl rfl (by decide +kernel) ⟨Nat.le_of_ble_eq_true rfl, Nat.le_of_ble_eq_true rfl⟩) (wt_pV hK hE hw hA hq.1 rfl) rfl rfl hl.1 rfl (lv_room (Nat.le_of_ble_eq_true rfl)) dL_cancel_5 ⟨Nat.le_of_ble_eq_true rfl, Nat.le_of_ble_eq_true rfl⟩) hw hA hoo hos hO (fun E ce q H locs hpE hw hO hcell hcv hcl => ?_) (fun rw_1 Lw_1 fw_1 H locs hpost hw hooN hO => ?_)
  · rcases hpE with ⟨rfl, hC⟩ | ⟨rfl, hC⟩
    · refine vx_catch (own := RL) hown [] ⟨0, 10, 13, 19⟩ [⟨0, 10, 17, 21⟩] (htab.trans rfl) (fun z hz => absurd hz List.not_mem_nil) (by decide) (by decide) (hts (.classLink RL 19 "java/lang/IndexOutOfBoundsException") (by decide +kernel)) (va_Nw.use rfl (hE.2.2.1 _ (by decide))) hcell hcv hcl ?_
      refine lv_astore (lv' := [(4, .ref q), (0, .ref ox), (1, .int p1), (2, .int p2), (3, .ref oo)]) hx hb dL_cancel_13 hl (by decide) rfl (fun ls hl => ?_)
      refine lv_iconst (v := 1) hx hb dL_cancel_15 (by decide) ?_
      exact wo_ret hx hb hr hlocks dL_cancel_16 hw hO hoo (Nat.le_of_ble_eq_true rfl) (Nat.le_of_ble_eq_true rfl) ⟨hC.symm, fun z => absurd (hC.symm.trans z) (by decide), fun _ => ⟨rfl, rfl⟩⟩
    · refine vx_catch (own := RL) hown [⟨0, 10, 13, 19⟩] ⟨0, 10, 17, 21⟩ [] (htab.trans rfl) (fun z hz => by rw [List.mem_singleton.mp hz]; exact Or.inr ⟨by decide, _, hts (.classLink RL 19 "java/lang/IndexOutOfBoundsException") (by decide +kernel), hN.1⟩) (by decide) (by decide) (hts (.classLink RL 21 "java/lang/IllegalStateException") (by decide +kernel)) (va_Nw.use rfl (hE.2.2.1 _ (by decide))) hcell hcv hcl ?_
      refine lv_astore (lv' := [(4, .ref q), (0, .ref ox), (1, .int p1), (2, .int p2), (3, .ref oo)]) hx hb dL_cancel_17 hl (by decide) rfl (fun ls hl => ?_)
      refine lv_iconst (v := 2) hx hb dL_cancel_19 (by decide) ?_
      exact wo_ret hx hb hr hlocks dL_cancel_20 hw hO hoo (Nat.le_of_ble_eq_true rfl) (Nat.le_of_ble_eq_true rfl) ⟨hC.symm, fun z => absurd (hC.symm.trans z) (by decide), fun _ => ⟨rfl, rfl⟩⟩
  obtain ⟨hC, er, ra2, ar2, hS⟩ := hpost
  subst er
  refine lv_i2l (v := (feeR (rr (ix p1))).toInt64) hx hb dL_cancel_8 rfl ?_
  refine wo_last hx hb hK hw hO hooN hAo dL_cancel_9 (fun H locs fo1 hfo hO hw => ?_)
  refine lv_goto (tgt := 21) hx hb dL_cancel_10 (by decide) ?_
  refine lv_iconst (v := 0) hx hb dL_cancel_21 (by decide) ?_
  exact wo_ret hx hb hr hlocks dL_cancel_22 hw hO hooN (Nat.le_of_ble_eq_true rfl) (Nat.le_of_ble_eq_true rfl) ⟨hC.symm, fun _ => ⟨hfo, ra2, ar2, hS⟩, fun z => absurd hC z⟩
set_option maxHeartbeats 4000000 in
set_option maxRecDepth 100000 in
theorem m_L_board (l : Launch) (hnt : l.stackTraces = false) {G : wy_G} {L : List Nat} {f : Nat → va_E} {sz oo : Nat} {ox lo : Nat} {ra ar : Nat → Nat} {n : Nat} {km mn : Int32} {wk : Nat} {po : Nat → Int32} {rr : Nat → wr_V} (hq : wx_S G L f ox lo ra ar n km mn wk po rr) (p1 p2 : Int32) : vx_Met l yL_board wsL_board ({ frames := 9, cells := 4, slots := 24, locals := 149 } : Room) (va_Pc [.ref ox, .int p1, .int p2, .ref oo] (wo_P G L f oo sz)) (wo_Q G L oo sz (wo_p G L f ox lo n km mn wk po (va_up rr (ix p1) (vTake (rr (ix p1)) (ix p2))) (((nI (cb (va_up (rsd (rr (ix p1))) (ix p2) true) 10))).toInt64) (rdC n p1 p2 (bdB (rr (ix p1)) (ix p2))))) (fun _ _ _ => False) 4 24 (wy_A (L ++ [oo]) sz) := by
  refine vx_ofWH (cc := cL_board) (maxL := 5) (ret := (some .int)) (hh := [(0, 10, 13, 19), (0, 10, 17, 21)]) (by decide) rfl ?_
  intro p e s m args below meth c s₁ B hml hv
  obtain ⟨rfl, hP⟩ := hv
  obtain ⟨hw, hK, hA, hAo⟩ := wo_start hP
  obtain ⟨hv, hE, hZ, hN, hoo, hos, fo, hO⟩ := hP
  have hsz := hv.1
  subst hsz
  have hx := B.exec
  have hb := B.bytes
  have hr := B.returns
  have hts := atoms_spec (ws := wsL_board) B.pre
  have hown : s.vm.findClass RL = some m.cls := findClass_of_methodNamed B.named
  have hlocks := B.notSynchronized
  have htab := vx_table (x := yL_board) B (hts (.codeWith yL_board cL_board 5 (some .int) [(0, 10, 13, 19), (0, 10, 17, 21)]) List.mem_cons_self)
  have hl := lv_entry ([.ref ox, .int p1, .int p2, .ref oo]) (n := 5) (Nat.le_of_ble_eq_true rfl)
  rw [lg_entry_eq]
  generalize (lg_sl ([.ref ox, .int p1, .int p2, .ref oo]) ++ List.replicate (5 - (lg_sl ([.ref ox, .int p1, .int p2, .ref oo])).length) Slot.unset).toArray = ls at hl ⊢
  have hl : lv_has ls 5 [(0, .ref ox), (1, .int p1), (2, .int p2), (3, .ref oo)] := hl
  refine lv_aload_n hx hb dL_board_0 rfl (lv_at hl 3 rfl) ?_
  refine lv_iconst (v := 0) hx hb dL_board_1 (by decide) ?_
  refine lv_aload_n hx hb dL_board_2 rfl (lv_at hl 0 rfl) ?_
  refine lv_iload_n hx hb dL_board_3 rfl (lv_at hl 1 rfl) ?_
  refine lv_iload_n hx hb dL_board_4 rfl (lv_at hl 2 rfl) ?_
  refine wo_call (vx_runV (As := [.int p1, .int p2]) (rest := [.int 0, .ref oo]) ⟨hx, hb, hml, hown, hts⟩ (m_X1_board l hnt hq (p1) (p2)) (cwV 2 hts gL_board_X1_board rfl rfl rfl (by decide +kernel) ⟨Nat.le_of_ble_eq_true rfl, Nat.le_of_ble_eq_true rfl⟩) (wt_pV hK hE hw hA hq.1 rfl) rfl rfl hl.1 rfl (lv_room (Nat.le_of_ble_eq_true rfl)) dL_board_5 ⟨Nat.le_of_ble_eq_true rfl, Nat.le_of_ble_eq_true rfl⟩) hw hA hoo hos hO (fun E ce q H locs hpE hw hO hcell hcv hcl => ?_) (fun rw_1 Lw_1 fw_1 H locs hpost hw hooN hO => ?_)
  · rcases hpE with ⟨rfl, hC⟩ | ⟨rfl, hC⟩
    · refine vx_catch (own := RL) hown [] ⟨0, 10, 13, 19⟩ [⟨0, 10, 17, 21⟩] (htab.trans rfl) (fun z hz => absurd hz List.not_mem_nil) (by decide) (by decide) (hts (.classLink RL 19 "java/lang/IndexOutOfBoundsException") (by decide +kernel)) (va_Nw.use rfl (hE.2.2.1 _ (by decide))) hcell hcv hcl ?_
      refine lv_astore (lv' := [(4, .ref q), (0, .ref ox), (1, .int p1), (2, .int p2), (3, .ref oo)]) hx hb dL_board_13 hl (by decide) rfl (fun ls hl => ?_)
      refine lv_iconst (v := 1) hx hb dL_board_15 (by decide) ?_
      exact wo_ret hx hb hr hlocks dL_board_16 hw hO hoo (Nat.le_of_ble_eq_true rfl) (Nat.le_of_ble_eq_true rfl) ⟨hC.symm, fun z => absurd (hC.symm.trans z) (by decide), fun _ => ⟨rfl, rfl⟩⟩
    · refine vx_catch (own := RL) hown [⟨0, 10, 13, 19⟩] ⟨0, 10, 17, 21⟩ [] (htab.trans rfl) (fun z hz => by rw [List.mem_singleton.mp hz]; exact Or.inr ⟨by decide, _, hts (.classLink RL 19 "java/lang/IndexOutOfBoundsException") (by decide +kernel), hN.1⟩) (by decide) (by decide) (hts (.classLink RL 21 "java/lang/IllegalStateException") (by decide +kernel)) (va_Nw.use rfl (hE.2.2.1 _ (by decide))) hcell hcv hcl ?_
      refine lv_astore (lv' := [(4, .ref q), (0, .ref ox), (1, .int p1), (2, .int p2), (3, .ref oo)]) hx hb dL_board_17 hl (by decide) rfl (fun ls hl => ?_)
      refine lv_iconst (v := 2) hx hb dL_board_19 (by decide) ?_
      exact wo_ret hx hb hr hlocks dL_board_20 hw hO hoo (Nat.le_of_ble_eq_true rfl) (Nat.le_of_ble_eq_true rfl) ⟨hC.symm, fun z => absurd (hC.symm.trans z) (by decide), fun _ => ⟨rfl, rfl⟩⟩
  obtain ⟨hC, er, ra2, ar2, hS⟩ := hpost
  subst er
  refine lv_i2l (v := (nI (cb (va_up (rsd (rr (ix p1))) (ix p2) true) 10)).toInt64) hx hb dL_board_8 rfl ?_
  refine wo_last hx hb hK hw hO hooN hAo dL_board_9 (fun H locs fo1 hfo hO hw => ?_)
  refine lv_goto (tgt := 21) hx hb dL_board_10 (by decide) ?_
  refine lv_iconst (v := 0) hx hb dL_board_21 (by decide) ?_
  exact wo_ret hx hb hr hlocks dL_board_22 hw hO hooN (Nat.le_of_ble_eq_true rfl) (Nat.le_of_ble_eq_true rfl) ⟨hC.symm, fun _ => ⟨hfo, ra2, ar2, hS⟩, fun z => absurd hC z⟩
set_option maxHeartbeats 4000000 in
set_option maxRecDepth 100000 in
theorem m_L_leave (l : Launch) (hnt : l.stackTraces = false) {G : wy_G} {L : List Nat} {f : Nat → va_E} {sz oo : Nat} {ox lo : Nat} {ra ar : Nat → Nat} {n : Nat} {km mn : Int32} {wk : Nat} {po : Nat → Int32} {rr : Nat → wr_V} (hq : wx_S G L f ox lo ra ar n km mn wk po rr) (p1 p2 : Int32) : vx_Met l yL_leave wsL_leave ({ frames := 9, cells := 4, slots := 24, locals := 149 } : Room) (va_Pc [.ref ox, .int p1, .int p2, .ref oo] (wo_P G L f oo sz)) (wo_Q G L oo sz (wo_p G L f ox lo n km mn wk po (va_up rr (ix p1) (vOut (rr (ix p1)) (ix p2))) (((rch (rr (ix p1)) (ix p2))).toInt64) (rdC n p1 p2 (lvB (rr (ix p1)) (ix p2))))) (fun _ _ _ => False) 4 24 (wy_A (L ++ [oo]) sz) := by
  refine vx_ofWH (cc := cL_leave) (maxL := 5) (ret := (some .int)) (hh := [(0, 10, 13, 19), (0, 10, 17, 21)]) (by decide) rfl ?_
  intro p e s m args below meth c s₁ B hml hv
  obtain ⟨rfl, hP⟩ := hv
  obtain ⟨hw, hK, hA, hAo⟩ := wo_start hP
  obtain ⟨hv, hE, hZ, hN, hoo, hos, fo, hO⟩ := hP
  have hsz := hv.1
  subst hsz
  have hx := B.exec
  have hb := B.bytes
  have hr := B.returns
  have hts := atoms_spec (ws := wsL_leave) B.pre
  have hown : s.vm.findClass RL = some m.cls := findClass_of_methodNamed B.named
  have hlocks := B.notSynchronized
  have htab := vx_table (x := yL_leave) B (hts (.codeWith yL_leave cL_leave 5 (some .int) [(0, 10, 13, 19), (0, 10, 17, 21)]) List.mem_cons_self)
  have hl := lv_entry ([.ref ox, .int p1, .int p2, .ref oo]) (n := 5) (Nat.le_of_ble_eq_true rfl)
  rw [lg_entry_eq]
  generalize (lg_sl ([.ref ox, .int p1, .int p2, .ref oo]) ++ List.replicate (5 - (lg_sl ([.ref ox, .int p1, .int p2, .ref oo])).length) Slot.unset).toArray = ls at hl ⊢
  have hl : lv_has ls 5 [(0, .ref ox), (1, .int p1), (2, .int p2), (3, .ref oo)] := hl
  refine lv_aload_n hx hb dL_leave_0 rfl (lv_at hl 3 rfl) ?_
  refine lv_iconst (v := 0) hx hb dL_leave_1 (by decide) ?_
  refine lv_aload_n hx hb dL_leave_2 rfl (lv_at hl 0 rfl) ?_
  refine lv_iload_n hx hb dL_leave_3 rfl (lv_at hl 1 rfl) ?_
  refine lv_iload_n hx hb dL_leave_4 rfl (lv_at hl 2 rfl) ?_
  refine wo_call (vx_runV (As := [.int p1, .int p2]) (rest := [.int 0, .ref oo]) ⟨hx, hb, hml, hown, hts⟩ (m_X1_leave l hnt hq (p1) (p2)) (cwV 2 hts gL_leave_X1_leave rfl rfl rfl (by decide +kernel) ⟨Nat.le_of_ble_eq_true rfl, Nat.le_of_ble_eq_true rfl⟩) (wt_pV hK hE hw hA hq.1 rfl) rfl rfl hl.1 rfl (lv_room (Nat.le_of_ble_eq_true rfl)) dL_leave_5 ⟨Nat.le_of_ble_eq_true rfl, Nat.le_of_ble_eq_true rfl⟩) hw hA hoo hos hO (fun E ce q H locs hpE hw hO hcell hcv hcl => ?_) (fun rw_1 Lw_1 fw_1 H locs hpost hw hooN hO => ?_)
  · rcases hpE with ⟨rfl, hC⟩ | ⟨rfl, hC⟩
    · refine vx_catch (own := RL) hown [] ⟨0, 10, 13, 19⟩ [⟨0, 10, 17, 21⟩] (htab.trans rfl) (fun z hz => absurd hz List.not_mem_nil) (by decide) (by decide) (hts (.classLink RL 19 "java/lang/IndexOutOfBoundsException") (by decide +kernel)) (va_Nw.use rfl (hE.2.2.1 _ (by decide))) hcell hcv hcl ?_
      refine lv_astore (lv' := [(4, .ref q), (0, .ref ox), (1, .int p1), (2, .int p2), (3, .ref oo)]) hx hb dL_leave_13 hl (by decide) rfl (fun ls hl => ?_)
      refine lv_iconst (v := 1) hx hb dL_leave_15 (by decide) ?_
      exact wo_ret hx hb hr hlocks dL_leave_16 hw hO hoo (Nat.le_of_ble_eq_true rfl) (Nat.le_of_ble_eq_true rfl) ⟨hC.symm, fun z => absurd (hC.symm.trans z) (by decide), fun _ => ⟨rfl, rfl⟩⟩
    · refine vx_catch (own := RL) hown [⟨0, 10, 13, 19⟩] ⟨0, 10, 17, 21⟩ [] (htab.trans rfl) (fun z hz => by rw [List.mem_singleton.mp hz]; exact Or.inr ⟨by decide, _, hts (.classLink RL 19 "java/lang/IndexOutOfBoundsException") (by decide +kernel), hN.1⟩) (by decide) (by decide) (hts (.classLink RL 21 "java/lang/IllegalStateException") (by decide +kernel)) (va_Nw.use rfl (hE.2.2.1 _ (by decide))) hcell hcv hcl ?_
      refine lv_astore (lv' := [(4, .ref q), (0, .ref ox), (1, .int p1), (2, .int p2), (3, .ref oo)]) hx hb dL_leave_17 hl (by decide) rfl (fun ls hl => ?_)
      refine lv_iconst (v := 2) hx hb dL_leave_19 (by decide) ?_
      exact wo_ret hx hb hr hlocks dL_leave_20 hw hO hoo (Nat.le_of_ble_eq_true rfl) (Nat.le_of_ble_eq_true rfl) ⟨hC.symm, fun z => absurd (hC.symm.trans z) (by decide), fun _ => ⟨rfl, rfl⟩⟩
  obtain ⟨hC, er, ra2, ar2, hS⟩ := hpost
  subst er
  refine lv_i2l (v := (rch (rr (ix p1)) (ix p2)).toInt64) hx hb dL_leave_8 rfl ?_
  refine wo_last hx hb hK hw hO hooN hAo dL_leave_9 (fun H locs fo1 hfo hO hw => ?_)
  refine lv_goto (tgt := 21) hx hb dL_leave_10 (by decide) ?_
  refine lv_iconst (v := 0) hx hb dL_leave_21 (by decide) ?_
  exact wo_ret hx hb hr hlocks dL_leave_22 hw hO hooN (Nat.le_of_ble_eq_true rfl) (Nat.le_of_ble_eq_true rfl) ⟨hC.symm, fun _ => ⟨hfo, ra2, ar2, hS⟩, fun z => absurd hC z⟩
set_option maxHeartbeats 4000000 in
set_option maxRecDepth 100000 in
theorem m_L_drive (l : Launch) (hnt : l.stackTraces = false) {G : wy_G} {L : List Nat} {f : Nat → va_E} {sz oo : Nat} {ox lo : Nat} {ra ar : Nat → Nat} {n : Nat} {km mn : Int32} {wk : Nat} {po : Nat → Int32} {rr : Nat → wr_V} (hq : wx_S G L f ox lo ra ar n km mn wk po rr) (p1 p2 p3 : Int32) : vx_Met l yL_drive wsL_drive ({ frames := 8, cells := 4, slots := 24, locals := 128 } : Room) (va_Pc [.ref ox, .int p1, .int p2, .int p3, .ref oo] (wo_P G L f oo sz)) (wo_Q G L oo sz (wo_p G L f ox lo n km mn wk po (va_up rr (ix p1) (vStr (rr (ix p1)) (p2 * km + p3 * mn) p3)) (((if cb (rsd (rr (ix p1))) 10 = 0 then 0 else p2 * km + p3 * mn)).toInt64) (dvC n p1 p2 p3 (rfi (rr (ix p1)))))) (fun _ _ _ => False) 4 24 (wy_A (L ++ [oo]) sz) := by
  refine vx_ofWH (cc := cL_drive) (maxL := 6) (ret := (some .int)) (hh := [(0, 12, 15, 19), (0, 12, 19, 13), (0, 12, 23, 21)]) (by decide) rfl ?_
  intro p e s m args below meth c s₁ B hml hv
  obtain ⟨rfl, hP⟩ := hv
  obtain ⟨hw, hK, hA, hAo⟩ := wo_start hP
  obtain ⟨hv, hE, hZ, hN, hoo, hos, fo, hO⟩ := hP
  have hsz := hv.1
  subst hsz
  have hx := B.exec
  have hb := B.bytes
  have hr := B.returns
  have hts := atoms_spec (ws := wsL_drive) B.pre
  have hown : s.vm.findClass RL = some m.cls := findClass_of_methodNamed B.named
  have hlocks := B.notSynchronized
  have htab := vx_table (x := yL_drive) B (hts (.codeWith yL_drive cL_drive 6 (some .int) [(0, 12, 15, 19), (0, 12, 19, 13), (0, 12, 23, 21)]) List.mem_cons_self)
  have hl := lv_entry ([.ref ox, .int p1, .int p2, .int p3, .ref oo]) (n := 6) (Nat.le_of_ble_eq_true rfl)
  rw [lg_entry_eq]
  generalize (lg_sl ([.ref ox, .int p1, .int p2, .int p3, .ref oo]) ++ List.replicate (6 - (lg_sl ([.ref ox, .int p1, .int p2, .int p3, .ref oo])).length) Slot.unset).toArray = ls at hl ⊢
  have hl : lv_has ls 6 [(0, .ref ox), (1, .int p1), (2, .int p2), (3, .int p3), (4, .ref oo)] := hl
  refine lv_aload hx hb dL_drive_0 (lv_at hl 4 rfl) ?_
  refine lv_iconst (v := 0) hx hb dL_drive_2 (by decide) ?_
  refine lv_aload_n hx hb dL_drive_3 rfl (lv_at hl 0 rfl) ?_
  refine lv_iload_n hx hb dL_drive_4 rfl (lv_at hl 1 rfl) ?_
  refine lv_iload_n hx hb dL_drive_5 rfl (lv_at hl 2 rfl) ?_
  refine lv_iload_n hx hb dL_drive_6 rfl (lv_at hl 3 rfl) ?_
  refine wo_call (vx_runV (As := [.int p1, .int p2, .int p3]) (rest := [.int 0, .ref oo]) ⟨hx, hb, hml, hown, hts⟩ (m_X1_drive l hnt hq (p1) (p2) (p3)) (cwV 3 hts gL_drive_X1_drive rfl rfl rfl (by decide +kernel) ⟨Nat.le_of_ble_eq_true rfl, Nat.le_of_ble_eq_true rfl⟩) (wt_pV hK hE hw hA hq.1 rfl) rfl rfl hl.1 rfl (lv_room (Nat.le_of_ble_eq_true rfl)) dL_drive_7 ⟨Nat.le_of_ble_eq_true rfl, Nat.le_of_ble_eq_true rfl⟩) hw hA hoo hos hO (fun E ce q H locs hpE hw hO hcell hcv hcl => ?_) (fun rw_1 Lw_1 fw_1 H locs hpost hw hooN hO => ?_)
  · rcases hpE with ⟨rfl, hC⟩ | ⟨rfl, hC⟩ | ⟨rfl, hC⟩
    · refine vx_catch (own := RL) hown [] ⟨0, 12, 15, 19⟩ [⟨0, 12, 19, 13⟩, ⟨0, 12, 23, 21⟩] (htab.trans rfl) (fun z hz => absurd hz List.not_mem_nil) (by decide) (by decide) (hts (.classLink RL 19 "java/lang/IndexOutOfBoundsException") (by decide +kernel)) (va_Nw.use rfl (hE.2.2.1 _ (by decide))) hcell hcv hcl ?_
      refine lv_astore (lv' := [(5, .ref q), (0, .ref ox), (1, .int p1), (2, .int p2), (3, .int p3), (4, .ref oo)]) hx hb dL_drive_15 hl (by decide) rfl (fun ls hl => ?_)
      refine lv_iconst (v := 1) hx hb dL_drive_17 (by decide) ?_
      exact wo_ret hx hb hr hlocks dL_drive_18 hw hO hoo (Nat.le_of_ble_eq_true rfl) (Nat.le_of_ble_eq_true rfl) ⟨hC.symm, fun z => absurd (hC.symm.trans z) (by decide), fun _ => ⟨rfl, rfl⟩⟩
    · refine vx_catch (own := RL) hown [⟨0, 12, 15, 19⟩] ⟨0, 12, 19, 13⟩ [⟨0, 12, 23, 21⟩] (htab.trans rfl) (fun z hz => by rw [List.mem_singleton.mp hz]; exact Or.inr ⟨by decide, _, hts (.classLink RL 19 "java/lang/IndexOutOfBoundsException") (by decide +kernel), hN.2.1⟩) (by decide) (by decide) (hts (.classLink RL 13 "java/lang/IllegalArgumentException") (by decide +kernel)) (va_Nw.use rfl (hE.2.2.1 _ (by decide))) hcell hcv hcl ?_
      refine lv_astore (lv' := [(5, .ref q), (0, .ref ox), (1, .int p1), (2, .int p2), (3, .int p3), (4, .ref oo)]) hx hb dL_drive_19 hl (by decide) rfl (fun ls hl => ?_)
      refine lv_iconst (v := 2) hx hb dL_drive_21 (by decide) ?_
      exact wo_ret hx hb hr hlocks dL_drive_22 hw hO hoo (Nat.le_of_ble_eq_true rfl) (Nat.le_of_ble_eq_true rfl) ⟨hC.symm, fun z => absurd (hC.symm.trans z) (by decide), fun _ => ⟨rfl, rfl⟩⟩
    · refine vx_catch (own := RL) hown [⟨0, 12, 15, 19⟩, ⟨0, 12, 19, 13⟩] ⟨0, 12, 23, 21⟩ [] (htab.trans rfl) (fun z hz => by
          rcases List.mem_cons.mp hz with h | h
          · rw [h]; exact Or.inr ⟨by decide, _, hts (.classLink RL 19 "java/lang/IndexOutOfBoundsException") (by decide +kernel), hN.1⟩
          · rw [List.mem_singleton.mp h]; exact Or.inr ⟨by decide, _, hts (.classLink RL 13 "java/lang/IllegalArgumentException") (by decide +kernel), hN.2.2⟩) (by decide) (by decide) (hts (.classLink RL 21 "java/lang/IllegalStateException") (by decide +kernel)) (va_Nw.use rfl (hE.2.2.1 _ (by decide))) hcell hcv hcl ?_
      refine lv_astore (lv' := [(5, .ref q), (0, .ref ox), (1, .int p1), (2, .int p2), (3, .int p3), (4, .ref oo)]) hx hb dL_drive_23 hl (by decide) rfl (fun ls hl => ?_)
      refine lv_iconst (v := 3) hx hb dL_drive_25 (by decide) ?_
      exact wo_ret hx hb hr hlocks dL_drive_26 hw hO hoo (Nat.le_of_ble_eq_true rfl) (Nat.le_of_ble_eq_true rfl) ⟨hC.symm, fun z => absurd (hC.symm.trans z) (by decide), fun _ => ⟨rfl, rfl⟩⟩
  obtain ⟨hC, er, ra2, ar2, hS⟩ := hpost
  subst er
  refine lv_i2l (v := (if cb (rsd (rr (ix p1))) 10 = 0 then 0 else p2 * km + p3 * mn).toInt64) hx hb dL_drive_10 rfl ?_
  refine wo_last hx hb hK hw hO hooN hAo dL_drive_11 (fun H locs fo1 hfo hO hw => ?_)
  refine lv_goto (tgt := 27) hx hb dL_drive_12 (by decide) ?_
  refine lv_iconst (v := 0) hx hb dL_drive_27 (by decide) ?_
  exact wo_ret hx hb hr hlocks dL_drive_28 hw hO hooN (Nat.le_of_ble_eq_true rfl) (Nat.le_of_ble_eq_true rfl) ⟨hC.symm, fun _ => ⟨hfo, ra2, ar2, hS⟩, fun z => absurd hC z⟩
set_option maxHeartbeats 4000000 in
set_option maxRecDepth 100000 in
theorem m_L_finish (l : Launch) (hnt : l.stackTraces = false) {G : wy_G} {L : List Nat} {f : Nat → va_E} {sz oo : Nat} {ox lo : Nat} {ra ar : Nat → Nat} {n : Nat} {km mn : Int32} {wk : Nat} {po : Nat → Int32} {rr : Nat → wr_V} (hq : wx_S G L f ox lo ra ar n km mn wk po rr) (p1 : Int32) : vx_Met l yL_finish wsL_finish ({ frames := 8, cells := 2, slots := 12, locals := 125 } : Room) (va_Pc [.ref ox, .int p1, .ref oo] (wo_P G L f oo sz)) (wo_Q G L oo sz (wo_p G L f ox lo n km mn wk po (va_up rr (ix p1) (vEnd (rr (ix p1)))) (((bx_sum (endc (rbk (rr (ix p1))) (rch (rr (ix p1))) 10) 10)).toInt64) (fnC n p1 (rfi (rr (ix p1)))))) (fun _ _ _ => False) 2 12 (wy_A (L ++ [oo]) sz) := by
  refine vx_ofWH (cc := cL_finish) (maxL := 4) (ret := (some .int)) (hh := [(0, 9, 12, 19), (0, 9, 15, 21)]) (by decide) rfl ?_
  intro p e s m args below meth c s₁ B hml hv
  obtain ⟨rfl, hP⟩ := hv
  obtain ⟨hw, hK, hA, hAo⟩ := wo_start hP
  obtain ⟨hv, hE, hZ, hN, hoo, hos, fo, hO⟩ := hP
  have hsz := hv.1
  subst hsz
  have hx := B.exec
  have hb := B.bytes
  have hr := B.returns
  have hts := atoms_spec (ws := wsL_finish) B.pre
  have hown : s.vm.findClass RL = some m.cls := findClass_of_methodNamed B.named
  have hlocks := B.notSynchronized
  have htab := vx_table (x := yL_finish) B (hts (.codeWith yL_finish cL_finish 4 (some .int) [(0, 9, 12, 19), (0, 9, 15, 21)]) List.mem_cons_self)
  have hl := lv_entry ([.ref ox, .int p1, .ref oo]) (n := 4) (Nat.le_of_ble_eq_true rfl)
  rw [lg_entry_eq]
  generalize (lg_sl ([.ref ox, .int p1, .ref oo]) ++ List.replicate (4 - (lg_sl ([.ref ox, .int p1, .ref oo])).length) Slot.unset).toArray = ls at hl ⊢
  have hl : lv_has ls 4 [(0, .ref ox), (1, .int p1), (2, .ref oo)] := hl
  refine lv_aload_n hx hb dL_finish_0 rfl (lv_at hl 2 rfl) ?_
  refine lv_iconst (v := 0) hx hb dL_finish_1 (by decide) ?_
  refine lv_aload_n hx hb dL_finish_2 rfl (lv_at hl 0 rfl) ?_
  refine lv_iload_n hx hb dL_finish_3 rfl (lv_at hl 1 rfl) ?_
  refine wo_call (vx_runV (As := [.int p1]) (rest := [.int 0, .ref oo]) ⟨hx, hb, hml, hown, hts⟩ (m_X1_finish l hnt hq (p1)) (cwV 1 hts gL_finish_X1_finish rfl rfl rfl (by decide +kernel) ⟨Nat.le_of_ble_eq_true rfl, Nat.le_of_ble_eq_true rfl⟩) (wt_pV hK hE hw hA hq.1 rfl) rfl rfl hl.1 rfl (lv_room (Nat.le_of_ble_eq_true rfl)) dL_finish_4 ⟨Nat.le_of_ble_eq_true rfl, Nat.le_of_ble_eq_true rfl⟩) hw hA hoo hos hO (fun E ce q H locs hpE hw hO hcell hcv hcl => ?_) (fun rw_1 Lw_1 fw_1 H locs hpost hw hooN hO => ?_)
  · rcases hpE with ⟨rfl, hC⟩ | ⟨rfl, hC⟩
    · refine vx_catch (own := RL) hown [] ⟨0, 9, 12, 19⟩ [⟨0, 9, 15, 21⟩] (htab.trans rfl) (fun z hz => absurd hz List.not_mem_nil) (by decide) (by decide) (hts (.classLink RL 19 "java/lang/IndexOutOfBoundsException") (by decide +kernel)) (va_Nw.use rfl (hE.2.2.1 _ (by decide))) hcell hcv hcl ?_
      refine lv_astore_n (lv' := [(3, .ref q), (0, .ref ox), (1, .int p1), (2, .ref oo)]) hx hb dL_finish_12 rfl hl (by decide) rfl (fun ls hl => ?_)
      refine lv_iconst (v := 1) hx hb dL_finish_13 (by decide) ?_
      exact wo_ret hx hb hr hlocks dL_finish_14 hw hO hoo (Nat.le_of_ble_eq_true rfl) (Nat.le_of_ble_eq_true rfl) ⟨hC.symm, fun z => absurd (hC.symm.trans z) (by decide), fun _ => ⟨rfl, rfl⟩⟩
    · refine vx_catch (own := RL) hown [⟨0, 9, 12, 19⟩] ⟨0, 9, 15, 21⟩ [] (htab.trans rfl) (fun z hz => by rw [List.mem_singleton.mp hz]; exact Or.inr ⟨by decide, _, hts (.classLink RL 19 "java/lang/IndexOutOfBoundsException") (by decide +kernel), hN.1⟩) (by decide) (by decide) (hts (.classLink RL 21 "java/lang/IllegalStateException") (by decide +kernel)) (va_Nw.use rfl (hE.2.2.1 _ (by decide))) hcell hcv hcl ?_
      refine lv_astore_n (lv' := [(3, .ref q), (0, .ref ox), (1, .int p1), (2, .ref oo)]) hx hb dL_finish_15 rfl hl (by decide) rfl (fun ls hl => ?_)
      refine lv_iconst (v := 2) hx hb dL_finish_16 (by decide) ?_
      exact wo_ret hx hb hr hlocks dL_finish_17 hw hO hoo (Nat.le_of_ble_eq_true rfl) (Nat.le_of_ble_eq_true rfl) ⟨hC.symm, fun z => absurd (hC.symm.trans z) (by decide), fun _ => ⟨rfl, rfl⟩⟩
  obtain ⟨hC, er, ra2, ar2, hS⟩ := hpost
  subst er
  refine lv_i2l (v := (bx_sum (endc (rbk (rr (ix p1))) (rch (rr (ix p1))) 10) 10).toInt64) hx hb dL_finish_7 rfl ?_
  refine wo_last hx hb hK hw hO hooN hAo dL_finish_8 (fun H locs fo1 hfo hO hw => ?_)
  refine lv_goto (tgt := 18) hx hb dL_finish_9 (by decide) ?_
  refine lv_iconst (v := 0) hx hb dL_finish_18 (by decide) ?_
  exact wo_ret hx hb hr hlocks dL_finish_19 hw hO hooN (Nat.le_of_ble_eq_true rfl) (Nat.le_of_ble_eq_true rfl) ⟨hC.symm, fun _ => ⟨hfo, ra2, ar2, hS⟩, fun z => absurd hC z⟩
set_option maxHeartbeats 4000000 in
set_option maxRecDepth 100000 in
theorem m_L_aboard (l : Launch) (hnt : l.stackTraces = false) {G : wy_G} {L : List Nat} {f : Nat → va_E} {sz oo : Nat} {ox lo : Nat} {ra ar : Nat → Nat} {n : Nat} {km mn : Int32} {wk : Nat} {po : Nat → Int32} {rr : Nat → wr_V} (hq : wx_S G L f ox lo ra ar n km mn wk po rr) (p1 : Int32) : vx_Met l yL_aboard wsL_aboard ({ frames := 8, cells := 1, slots := 6, locals := 124 } : Room) (va_Pc [.ref ox, .int p1, .ref oo] (wo_P G L f oo sz)) (wo_Q G L oo sz (wo_p G L f ox lo n km mn wk po (rr) (((mks (rsd (rr (ix p1))))).toInt64) (okC n p1))) (fun _ _ _ => False) 1 6 (wy_A (L ++ [oo]) sz) := by
  refine vx_ofWH (cc := cL_aboard) (maxL := 4) (ret := (some .int)) (hh := [(0, 9, 12, 19)]) (by decide) rfl ?_
  intro p e s m args below meth c s₁ B hml hv
  obtain ⟨rfl, hP⟩ := hv
  obtain ⟨hw, hK, hA, hAo⟩ := wo_start hP
  obtain ⟨hv, hE, hZ, hN, hoo, hos, fo, hO⟩ := hP
  have hsz := hv.1
  subst hsz
  have hx := B.exec
  have hb := B.bytes
  have hr := B.returns
  have hts := atoms_spec (ws := wsL_aboard) B.pre
  have hown : s.vm.findClass RL = some m.cls := findClass_of_methodNamed B.named
  have hlocks := B.notSynchronized
  have htab := vx_table (x := yL_aboard) B (hts (.codeWith yL_aboard cL_aboard 4 (some .int) [(0, 9, 12, 19)]) List.mem_cons_self)
  have hl := lv_entry ([.ref ox, .int p1, .ref oo]) (n := 4) (Nat.le_of_ble_eq_true rfl)
  rw [lg_entry_eq]
  generalize (lg_sl ([.ref ox, .int p1, .ref oo]) ++ List.replicate (4 - (lg_sl ([.ref ox, .int p1, .ref oo])).length) Slot.unset).toArray = ls at hl ⊢
  have hl : lv_has ls 4 [(0, .ref ox), (1, .int p1), (2, .ref oo)] := hl
  refine lv_aload_n hx hb dL_aboard_0 rfl (lv_at hl 2 rfl) ?_
  refine lv_iconst (v := 0) hx hb dL_aboard_1 (by decide) ?_
  refine lv_aload_n hx hb dL_aboard_2 rfl (lv_at hl 0 rfl) ?_
  refine lv_iload_n hx hb dL_aboard_3 rfl (lv_at hl 1 rfl) ?_
  refine wo_call (vx_runV (As := [.int p1]) (rest := [.int 0, .ref oo]) ⟨hx, hb, hml, hown, hts⟩ (m_X1_aboard l hnt hq (p1)) (cwV 1 hts gL_aboard_X1_aboard rfl rfl rfl (by decide +kernel) ⟨Nat.le_of_ble_eq_true rfl, Nat.le_of_ble_eq_true rfl⟩) (wt_pV hK hE hw hA hq.1 rfl) rfl rfl hl.1 rfl (lv_room (Nat.le_of_ble_eq_true rfl)) dL_aboard_4 ⟨Nat.le_of_ble_eq_true rfl, Nat.le_of_ble_eq_true rfl⟩) hw hA hoo hos hO (fun E ce q H locs hpE hw hO hcell hcv hcl => ?_) (fun rw_1 Lw_1 fw_1 H locs hpost hw hooN hO => ?_)
  · obtain ⟨rfl, hC⟩ := hpE
    refine vx_catch (own := RL) hown [] ⟨0, 9, 12, 19⟩ [] (htab.trans rfl) (fun z hz => absurd hz List.not_mem_nil) (by decide) (by decide) (hts (.classLink RL 19 "java/lang/IndexOutOfBoundsException") (by decide +kernel)) (va_Nw.use rfl (hE.2.2.1 _ (by decide))) hcell hcv hcl ?_
    refine lv_astore_n (lv' := [(3, .ref q), (0, .ref ox), (1, .int p1), (2, .ref oo)]) hx hb dL_aboard_12 rfl hl (by decide) rfl (fun ls hl => ?_)
    refine lv_iconst (v := 1) hx hb dL_aboard_13 (by decide) ?_
    exact wo_ret hx hb hr hlocks dL_aboard_14 hw hO hoo (Nat.le_of_ble_eq_true rfl) (Nat.le_of_ble_eq_true rfl) ⟨hC.symm, fun z => absurd (hC.symm.trans z) (by decide), fun _ => ⟨rfl, rfl⟩⟩
  obtain ⟨hC, er, ra2, ar2, hS⟩ := hpost
  subst er
  refine lv_i2l (v := (mks (rsd (rr (ix p1)))).toInt64) hx hb dL_aboard_7 rfl ?_
  refine wo_last hx hb hK hw hO hooN hAo dL_aboard_8 (fun H locs fo1 hfo hO hw => ?_)
  refine lv_goto (tgt := 15) hx hb dL_aboard_9 (by decide) ?_
  refine lv_iconst (v := 0) hx hb dL_aboard_15 (by decide) ?_
  exact wo_ret hx hb hr hlocks dL_aboard_16 hw hO hooN (Nat.le_of_ble_eq_true rfl) (Nat.le_of_ble_eq_true rfl) ⟨hC.symm, fun _ => ⟨hfo, ra2, ar2, hS⟩, fun z => absurd hC z⟩
set_option maxHeartbeats 4000000 in
set_option maxRecDepth 100000 in
theorem m_L_charge (l : Launch) (hnt : l.stackTraces = false) {G : wy_G} {L : List Nat} {f : Nat → va_E} {sz oo : Nat} {ox lo : Nat} {ra ar : Nat → Nat} {n : Nat} {km mn : Int32} {wk : Nat} {po : Nat → Int32} {rr : Nat → wr_V} (hq : wx_S G L f ox lo ra ar n km mn wk po rr) (p1 p2 : Int32) : vx_Met l yL_charge wsL_charge ({ frames := 8, cells := 2, slots := 12, locals := 126 } : Room) (va_Pc [.ref ox, .int p1, .int p2, .ref oo] (wo_P G L f oo sz)) (wo_Q G L oo sz (wo_p G L f ox lo n km mn wk po (rr) (((rch (rr (ix p1)) (ix p2))).toInt64) (ok2C n p1 p2))) (fun _ _ _ => False) 2 12 (wy_A (L ++ [oo]) sz) := by
  refine vx_ofWH (cc := cL_charge) (maxL := 5) (ret := (some .int)) (hh := [(0, 10, 13, 19)]) (by decide) rfl ?_
  intro p e s m args below meth c s₁ B hml hv
  obtain ⟨rfl, hP⟩ := hv
  obtain ⟨hw, hK, hA, hAo⟩ := wo_start hP
  obtain ⟨hv, hE, hZ, hN, hoo, hos, fo, hO⟩ := hP
  have hsz := hv.1
  subst hsz
  have hx := B.exec
  have hb := B.bytes
  have hr := B.returns
  have hts := atoms_spec (ws := wsL_charge) B.pre
  have hown : s.vm.findClass RL = some m.cls := findClass_of_methodNamed B.named
  have hlocks := B.notSynchronized
  have htab := vx_table (x := yL_charge) B (hts (.codeWith yL_charge cL_charge 5 (some .int) [(0, 10, 13, 19)]) List.mem_cons_self)
  have hl := lv_entry ([.ref ox, .int p1, .int p2, .ref oo]) (n := 5) (Nat.le_of_ble_eq_true rfl)
  rw [lg_entry_eq]
  generalize (lg_sl ([.ref ox, .int p1, .int p2, .ref oo]) ++ List.replicate (5 - (lg_sl ([.ref ox, .int p1, .int p2, .ref oo])).length) Slot.unset).toArray = ls at hl ⊢
  have hl : lv_has ls 5 [(0, .ref ox), (1, .int p1), (2, .int p2), (3, .ref oo)] := hl
  refine lv_aload_n hx hb dL_charge_0 rfl (lv_at hl 3 rfl) ?_
  refine lv_iconst (v := 0) hx hb dL_charge_1 (by decide) ?_
  refine lv_aload_n hx hb dL_charge_2 rfl (lv_at hl 0 rfl) ?_
  refine lv_iload_n hx hb dL_charge_3 rfl (lv_at hl 1 rfl) ?_
  refine lv_iload_n hx hb dL_charge_4 rfl (lv_at hl 2 rfl) ?_
  refine wo_call (vx_runV (As := [.int p1, .int p2]) (rest := [.int 0, .ref oo]) ⟨hx, hb, hml, hown, hts⟩ (m_X1_charge l hnt hq (p1) (p2)) (cwV 2 hts gL_charge_X1_charge rfl rfl rfl (by decide +kernel) ⟨Nat.le_of_ble_eq_true rfl, Nat.le_of_ble_eq_true rfl⟩) (wt_pV hK hE hw hA hq.1 rfl) rfl rfl hl.1 rfl (lv_room (Nat.le_of_ble_eq_true rfl)) dL_charge_5 ⟨Nat.le_of_ble_eq_true rfl, Nat.le_of_ble_eq_true rfl⟩) hw hA hoo hos hO (fun E ce q H locs hpE hw hO hcell hcv hcl => ?_) (fun rw_1 Lw_1 fw_1 H locs hpost hw hooN hO => ?_)
  · obtain ⟨rfl, hC⟩ := hpE
    refine vx_catch (own := RL) hown [] ⟨0, 10, 13, 19⟩ [] (htab.trans rfl) (fun z hz => absurd hz List.not_mem_nil) (by decide) (by decide) (hts (.classLink RL 19 "java/lang/IndexOutOfBoundsException") (by decide +kernel)) (va_Nw.use rfl (hE.2.2.1 _ (by decide))) hcell hcv hcl ?_
    refine lv_astore (lv' := [(4, .ref q), (0, .ref ox), (1, .int p1), (2, .int p2), (3, .ref oo)]) hx hb dL_charge_13 hl (by decide) rfl (fun ls hl => ?_)
    refine lv_iconst (v := 1) hx hb dL_charge_15 (by decide) ?_
    exact wo_ret hx hb hr hlocks dL_charge_16 hw hO hoo (Nat.le_of_ble_eq_true rfl) (Nat.le_of_ble_eq_true rfl) ⟨hC.symm, fun z => absurd (hC.symm.trans z) (by decide), fun _ => ⟨rfl, rfl⟩⟩
  obtain ⟨hC, er, ra2, ar2, hS⟩ := hpost
  subst er
  refine lv_i2l (v := (rch (rr (ix p1)) (ix p2)).toInt64) hx hb dL_charge_8 rfl ?_
  refine wo_last hx hb hK hw hO hooN hAo dL_charge_9 (fun H locs fo1 hfo hO hw => ?_)
  refine lv_goto (tgt := 17) hx hb dL_charge_10 (by decide) ?_
  refine lv_iconst (v := 0) hx hb dL_charge_17 (by decide) ?_
  exact wo_ret hx hb hr hlocks dL_charge_18 hw hO hooN (Nat.le_of_ble_eq_true rfl) (Nat.le_of_ble_eq_true rfl) ⟨hC.symm, fun _ => ⟨hfo, ra2, ar2, hS⟩, fun z => absurd hC z⟩
set_option maxHeartbeats 4000000 in
set_option maxRecDepth 100000 in
theorem m_L_isVoid (l : Launch) (hnt : l.stackTraces = false) {G : wy_G} {L : List Nat} {f : Nat → va_E} {sz oo : Nat} {ox lo : Nat} {ra ar : Nat → Nat} {n : Nat} {km mn : Int32} {wk : Nat} {po : Nat → Int32} {rr : Nat → wr_V} (hq : wx_S G L f ox lo ra ar n km mn wk po rr) (p1 : Int32) : vx_Met l yL_isVoid wsL_isVoid ({ frames := 8, cells := 1, slots := 6, locals := 124 } : Room) (va_Pc [.ref ox, .int p1, .ref oo] (wo_P G L f oo sz)) (wo_Q G L oo sz (wo_p G L f ox lo n km mn wk po (rr) (((bI (voidR (rr (ix p1))))).toInt64) (okC n p1))) (fun _ _ _ => False) 1 6 (wy_A (L ++ [oo]) sz) := by
  refine vx_ofWH (cc := cL_isVoid) (maxL := 4) (ret := (some .int)) (hh := [(0, 16, 19, 19)]) (by decide) rfl ?_
  intro p e s m args below meth c s₁ B hml hv
  obtain ⟨rfl, hP⟩ := hv
  obtain ⟨hw, hK, hA, hAo⟩ := wo_start hP
  obtain ⟨hv, hE, hZ, hN, hoo, hos, fo, hO⟩ := hP
  have hsz := hv.1
  subst hsz
  have hx := B.exec
  have hb := B.bytes
  have hr := B.returns
  have hts := atoms_spec (ws := wsL_isVoid) B.pre
  have hown : s.vm.findClass RL = some m.cls := findClass_of_methodNamed B.named
  have hlocks := B.notSynchronized
  have htab := vx_table (x := yL_isVoid) B (hts (.codeWith yL_isVoid cL_isVoid 4 (some .int) [(0, 16, 19, 19)]) List.mem_cons_self)
  have hl := lv_entry ([.ref ox, .int p1, .ref oo]) (n := 4) (Nat.le_of_ble_eq_true rfl)
  rw [lg_entry_eq]
  generalize (lg_sl ([.ref ox, .int p1, .ref oo]) ++ List.replicate (4 - (lg_sl ([.ref ox, .int p1, .ref oo])).length) Slot.unset).toArray = ls at hl ⊢
  have hl : lv_has ls 4 [(0, .ref ox), (1, .int p1), (2, .ref oo)] := hl
  refine lv_aload_n hx hb dL_isVoid_0 rfl (lv_at hl 2 rfl) ?_
  refine lv_iconst (v := 0) hx hb dL_isVoid_1 (by decide) ?_
  refine lv_aload_n hx hb dL_isVoid_2 rfl (lv_at hl 0 rfl) ?_
  refine lv_iload_n hx hb dL_isVoid_3 rfl (lv_at hl 1 rfl) ?_
  refine wo_call (vx_runV (As := [.int p1]) (rest := [.int 0, .ref oo]) ⟨hx, hb, hml, hown, hts⟩ (m_X1_isVoid l hnt hq (p1)) (cwV 1 hts gL_isVoid_X1_isVoid rfl rfl rfl (by decide +kernel) ⟨Nat.le_of_ble_eq_true rfl, Nat.le_of_ble_eq_true rfl⟩) (wt_pV hK hE hw hA hq.1 rfl) rfl rfl hl.1 rfl (lv_room (Nat.le_of_ble_eq_true rfl)) dL_isVoid_4 ⟨Nat.le_of_ble_eq_true rfl, Nat.le_of_ble_eq_true rfl⟩) hw hA hoo hos hO (fun E ce q H locs hpE hw hO hcell hcv hcl => ?_) (fun rw_1 Lw_1 fw_1 H locs hpost hw hooN hO => ?_)
  · obtain ⟨rfl, hC⟩ := hpE
    refine vx_catch (own := RL) hown [] ⟨0, 16, 19, 19⟩ [] (htab.trans rfl) (fun z hz => absurd hz List.not_mem_nil) (by decide) (by decide) (hts (.classLink RL 19 "java/lang/IndexOutOfBoundsException") (by decide +kernel)) (va_Nw.use rfl (hE.2.2.1 _ (by decide))) hcell hcv hcl ?_
    refine lv_astore_n (lv' := [(3, .ref q), (0, .ref ox), (1, .int p1), (2, .ref oo)]) hx hb dL_isVoid_19 rfl hl (by decide) rfl (fun ls hl => ?_)
    refine lv_iconst (v := 1) hx hb dL_isVoid_20 (by decide) ?_
    exact wo_ret hx hb hr hlocks dL_isVoid_21 hw hO hoo (Nat.le_of_ble_eq_true rfl) (Nat.le_of_ble_eq_true rfl) ⟨hC.symm, fun z => absurd (hC.symm.trans z) (by decide), fun _ => ⟨rfl, rfl⟩⟩
  obtain ⟨hC, er, ra2, ar2, hS⟩ := hpost
  subst er
  refine lv_if_eq (tgt := 14) hx hb dL_isVoid_7 (by decide) (fun c_2 => ?_) (fun c_2 => ?_)
  · have bc_2 : (voidR (rr (ix p1))) = false := bI_0 (rfl.symm.trans c_2)
    refine lv_lconst (v := 0) hx hb dL_isVoid_14 rfl ?_
    refine wo_last hx hb hK hw hO hooN hAo dL_isVoid_15 (fun H locs fo1 hfo hO hw => ?_)
    refine lv_goto (tgt := 22) hx hb dL_isVoid_16 (by decide) ?_
    refine lv_iconst (v := 0) hx hb dL_isVoid_22 (by decide) ?_
    exact wo_ret hx hb hr hlocks dL_isVoid_23 hw hO hooN (Nat.le_of_ble_eq_true rfl) (Nat.le_of_ble_eq_true rfl) ⟨hC.symm, fun _ => ⟨hfo.trans (by rw [bc_2]; rfl), ra2, ar2, hS⟩, fun z => absurd hC z⟩
  · have bc_2 : (voidR (rr (ix p1))) = true := bI_1 (fun z => c_2 (rfl.trans z))
    refine lv_lconst (v := 1) hx hb dL_isVoid_10 rfl ?_
    refine lv_goto (tgt := 15) hx hb dL_isVoid_11 (by decide) ?_
    refine wo_last hx hb hK hw hO hooN hAo dL_isVoid_15 (fun H locs fo1 hfo hO hw => ?_)
    refine lv_goto (tgt := 22) hx hb dL_isVoid_16 (by decide) ?_
    refine lv_iconst (v := 0) hx hb dL_isVoid_22 (by decide) ?_
    exact wo_ret hx hb hr hlocks dL_isVoid_23 hw hO hooN (Nat.le_of_ble_eq_true rfl) (Nat.le_of_ble_eq_true rfl) ⟨hC.symm, fun _ => ⟨hfo.trans (by rw [bc_2]; rfl), ra2, ar2, hS⟩, fun z => absurd hC z⟩
set_option maxHeartbeats 4000000 in
set_option maxRecDepth 100000 in
theorem m_L_dispute (l : Launch) (hnt : l.stackTraces = false) {G : wy_G} {L : List Nat} {f : Nat → va_E} {sz oo : Nat} {ox lo : Nat} {ra ar : Nat → Nat} {n : Nat} {km mn : Int32} {wk : Nat} {po : Nat → Int32} {rr : Nat → wr_V} (hq : wx_S G L f ox lo ra ar n km mn wk po rr) (p1 p2 : Int32) : vx_Met l yL_dispute wsL_dispute ({ frames := 8, cells := 3, slots := 18, locals := 126 } : Room) (va_Pc [.ref ox, .int p1, .int p2, .ref oo] (wo_P G L f oo sz)) (wo_Q G L oo sz (wo_p G L f ox lo n km mn wk po (va_up rr (ix p1) (vDis (rr (ix p1)) (ix p2))) (((rch (rr (ix p1)) (ix p2))).toInt64) (rdC n p1 p2 (dsB (rr (ix p1)) (ix p2))))) (fun _ _ _ => False) 3 18 (wy_A (L ++ [oo]) sz) := by
  refine vx_ofWH (cc := cL_dispute) (maxL := 5) (ret := (some .int)) (hh := [(0, 10, 13, 19), (0, 10, 17, 21)]) (by decide) rfl ?_
  intro p e s m args below meth c s₁ B hml hv
  obtain ⟨rfl, hP⟩ := hv
  obtain ⟨hw, hK, hA, hAo⟩ := wo_start hP
  obtain ⟨hv, hE, hZ, hN, hoo, hos, fo, hO⟩ := hP
  have hsz := hv.1
  subst hsz
  have hx := B.exec
  have hb := B.bytes
  have hr := B.returns
  have hts := atoms_spec (ws := wsL_dispute) B.pre
  have hown : s.vm.findClass RL = some m.cls := findClass_of_methodNamed B.named
  have hlocks := B.notSynchronized
  have htab := vx_table (x := yL_dispute) B (hts (.codeWith yL_dispute cL_dispute 5 (some .int) [(0, 10, 13, 19), (0, 10, 17, 21)]) List.mem_cons_self)
  have hl := lv_entry ([.ref ox, .int p1, .int p2, .ref oo]) (n := 5) (Nat.le_of_ble_eq_true rfl)
  rw [lg_entry_eq]
  generalize (lg_sl ([.ref ox, .int p1, .int p2, .ref oo]) ++ List.replicate (5 - (lg_sl ([.ref ox, .int p1, .int p2, .ref oo])).length) Slot.unset).toArray = ls at hl ⊢
  have hl : lv_has ls 5 [(0, .ref ox), (1, .int p1), (2, .int p2), (3, .ref oo)] := hl
  refine lv_aload_n hx hb dL_dispute_0 rfl (lv_at hl 3 rfl) ?_
  refine lv_iconst (v := 0) hx hb dL_dispute_1 (by decide) ?_
  refine lv_aload_n hx hb dL_dispute_2 rfl (lv_at hl 0 rfl) ?_
  refine lv_iload_n hx hb dL_dispute_3 rfl (lv_at hl 1 rfl) ?_
  refine lv_iload_n hx hb dL_dispute_4 rfl (lv_at hl 2 rfl) ?_
  refine wo_call (vx_runV (As := [.int p1, .int p2]) (rest := [.int 0, .ref oo]) ⟨hx, hb, hml, hown, hts⟩ (m_X1_dispute l hnt hq (p1) (p2)) (cwV 2 hts gL_dispute_X1_dispute rfl rfl rfl (by decide +kernel) ⟨Nat.le_of_ble_eq_true rfl, Nat.le_of_ble_eq_true rfl⟩) (wt_pV hK hE hw hA hq.1 rfl) rfl rfl hl.1 rfl (lv_room (Nat.le_of_ble_eq_true rfl)) dL_dispute_5 ⟨Nat.le_of_ble_eq_true rfl, Nat.le_of_ble_eq_true rfl⟩) hw hA hoo hos hO (fun E ce q H locs hpE hw hO hcell hcv hcl => ?_) (fun rw_1 Lw_1 fw_1 H locs hpost hw hooN hO => ?_)
  · rcases hpE with ⟨rfl, hC⟩ | ⟨rfl, hC⟩
    · refine vx_catch (own := RL) hown [] ⟨0, 10, 13, 19⟩ [⟨0, 10, 17, 21⟩] (htab.trans rfl) (fun z hz => absurd hz List.not_mem_nil) (by decide) (by decide) (hts (.classLink RL 19 "java/lang/IndexOutOfBoundsException") (by decide +kernel)) (va_Nw.use rfl (hE.2.2.1 _ (by decide))) hcell hcv hcl ?_
      refine lv_astore (lv' := [(4, .ref q), (0, .ref ox), (1, .int p1), (2, .int p2), (3, .ref oo)]) hx hb dL_dispute_13 hl (by decide) rfl (fun ls hl => ?_)
      refine lv_iconst (v := 1) hx hb dL_dispute_15 (by decide) ?_
      exact wo_ret hx hb hr hlocks dL_dispute_16 hw hO hoo (Nat.le_of_ble_eq_true rfl) (Nat.le_of_ble_eq_true rfl) ⟨hC.symm, fun z => absurd (hC.symm.trans z) (by decide), fun _ => ⟨rfl, rfl⟩⟩
    · refine vx_catch (own := RL) hown [⟨0, 10, 13, 19⟩] ⟨0, 10, 17, 21⟩ [] (htab.trans rfl) (fun z hz => by rw [List.mem_singleton.mp hz]; exact Or.inr ⟨by decide, _, hts (.classLink RL 19 "java/lang/IndexOutOfBoundsException") (by decide +kernel), hN.1⟩) (by decide) (by decide) (hts (.classLink RL 21 "java/lang/IllegalStateException") (by decide +kernel)) (va_Nw.use rfl (hE.2.2.1 _ (by decide))) hcell hcv hcl ?_
      refine lv_astore (lv' := [(4, .ref q), (0, .ref ox), (1, .int p1), (2, .int p2), (3, .ref oo)]) hx hb dL_dispute_17 hl (by decide) rfl (fun ls hl => ?_)
      refine lv_iconst (v := 2) hx hb dL_dispute_19 (by decide) ?_
      exact wo_ret hx hb hr hlocks dL_dispute_20 hw hO hoo (Nat.le_of_ble_eq_true rfl) (Nat.le_of_ble_eq_true rfl) ⟨hC.symm, fun z => absurd (hC.symm.trans z) (by decide), fun _ => ⟨rfl, rfl⟩⟩
  obtain ⟨hC, er, ra2, ar2, hS⟩ := hpost
  subst er
  refine lv_i2l (v := (rch (rr (ix p1)) (ix p2)).toInt64) hx hb dL_dispute_8 rfl ?_
  refine wo_last hx hb hK hw hO hooN hAo dL_dispute_9 (fun H locs fo1 hfo hO hw => ?_)
  refine lv_goto (tgt := 21) hx hb dL_dispute_10 (by decide) ?_
  refine lv_iconst (v := 0) hx hb dL_dispute_21 (by decide) ?_
  exact wo_ret hx hb hr hlocks dL_dispute_22 hw hO hooN (Nat.le_of_ble_eq_true rfl) (Nat.le_of_ble_eq_true rfl) ⟨hC.symm, fun _ => ⟨hfo, ra2, ar2, hS⟩, fun z => absurd hC z⟩
set_option maxHeartbeats 4000000 in
set_option maxRecDepth 100000 in
theorem m_L_closeWeek (l : Launch) (hnt : l.stackTraces = false) {G : wy_G} {L : List Nat} {f : Nat → va_E} {sz oo : Nat} {ox lo : Nat} {ra ar : Nat → Nat} {n : Nat} {km mn : Int32} {wk : Nat} {po : Nat → Int32} {rr : Nat → wr_V} (hq : wx_S G L f ox lo ra ar n km mn wk po rr) : vx_Met l yL_closeWeek wsL_closeWeek ({ frames := 9, cells := 1, slots := 6, locals := 203 } : Room) (va_Pc [.ref ox, .ref oo] (wo_P G L f oo sz)) (wo_Q G L oo sz (wo_p G L f ox lo n km mn (wk + 1) (poW rr n po wk 5) (rr) (((totW rr n po wk 5)).toInt64) (cwC rr n wk))) (fun _ _ _ => False) 1 6 (wy_A (L ++ [oo]) sz) := by
  refine vx_ofWH (cc := cL_closeWeek) (maxL := 3) (ret := (some .int)) (hh := [(0, 8, 11, 21)]) (by decide) rfl ?_
  intro p e s m args below meth c s₁ B hml hv
  obtain ⟨rfl, hP⟩ := hv
  obtain ⟨hw, hK, hA, hAo⟩ := wo_start hP
  obtain ⟨hv, hE, hZ, hN, hoo, hos, fo, hO⟩ := hP
  have hsz := hv.1
  subst hsz
  have hx := B.exec
  have hb := B.bytes
  have hr := B.returns
  have hts := atoms_spec (ws := wsL_closeWeek) B.pre
  have hown : s.vm.findClass RL = some m.cls := findClass_of_methodNamed B.named
  have hlocks := B.notSynchronized
  have htab := vx_table (x := yL_closeWeek) B (hts (.codeWith yL_closeWeek cL_closeWeek 3 (some .int) [(0, 8, 11, 21)]) List.mem_cons_self)
  have hl := lv_entry ([.ref ox, .ref oo]) (n := 3) (Nat.le_of_ble_eq_true rfl)
  rw [lg_entry_eq]
  generalize (lg_sl ([.ref ox, .ref oo]) ++ List.replicate (3 - (lg_sl ([.ref ox, .ref oo])).length) Slot.unset).toArray = ls at hl ⊢
  have hl : lv_has ls 3 [(0, .ref ox), (1, .ref oo)] := hl
  refine lv_aload_n hx hb dL_closeWeek_0 rfl (lv_at hl 1 rfl) ?_
  refine lv_iconst (v := 0) hx hb dL_closeWeek_1 (by decide) ?_
  refine lv_aload_n hx hb dL_closeWeek_2 rfl (lv_at hl 0 rfl) ?_
  refine wo_call (vx_runV (As := []) (rest := [.int 0, .ref oo]) ⟨hx, hb, hml, hown, hts⟩ (m_X1_closeWeek l hnt hq) (cwV 0 hts gL_closeWeek_X1_closeWeek rfl rfl rfl (by decide +kernel) ⟨Nat.le_of_ble_eq_true rfl, Nat.le_of_ble_eq_true rfl⟩) (wt_pV hK hE hw hA hq.1 rfl) rfl rfl hl.1 rfl (lv_room (Nat.le_of_ble_eq_true rfl)) dL_closeWeek_3 ⟨Nat.le_of_ble_eq_true rfl, Nat.le_of_ble_eq_true rfl⟩) hw hA hoo hos hO (fun E ce q H locs hpE hw hO hcell hcv hcl => ?_) (fun rw_1 Lw_1 fw_1 H locs hpost hw hooN hO => ?_)
  · obtain ⟨rfl, hC⟩ := hpE
    refine vx_catch (own := RL) hown [] ⟨0, 8, 11, 21⟩ [] (htab.trans rfl) (fun z hz => absurd hz List.not_mem_nil) (by decide) (by decide) (hts (.classLink RL 21 "java/lang/IllegalStateException") (by decide +kernel)) (va_Nw.use rfl (hE.2.2.1 _ (by decide))) hcell hcv hcl ?_
    refine lv_astore_n (lv' := [(2, .ref q), (0, .ref ox), (1, .ref oo)]) hx hb dL_closeWeek_11 rfl hl (by decide) rfl (fun ls hl => ?_)
    refine lv_iconst (v := 1) hx hb dL_closeWeek_12 (by decide) ?_
    exact wo_ret hx hb hr hlocks dL_closeWeek_13 hw hO hoo (Nat.le_of_ble_eq_true rfl) (Nat.le_of_ble_eq_true rfl) ⟨hC.symm, fun z => absurd (hC.symm.trans z) (by decide), fun _ => ⟨rfl, rfl⟩⟩
  obtain ⟨hC, er, ra2, ar2, hS⟩ := hpost
  subst er
  refine lv_i2l (v := (totW rr n po wk 5).toInt64) hx hb dL_closeWeek_6 rfl ?_
  refine wo_last hx hb hK hw hO hooN hAo dL_closeWeek_7 (fun H locs fo1 hfo hO hw => ?_)
  refine lv_goto (tgt := 14) hx hb dL_closeWeek_8 (by decide) ?_
  refine lv_iconst (v := 0) hx hb dL_closeWeek_14 (by decide) ?_
  exact wo_ret hx hb hr hlocks dL_closeWeek_15 hw hO hooN (Nat.le_of_ble_eq_true rfl) (Nat.le_of_ble_eq_true rfl) ⟨hC.symm, fun _ => ⟨hfo, ra2, ar2, hS⟩, fun z => absurd hC z⟩
set_option maxHeartbeats 4000000 in
set_option maxRecDepth 100000 in
theorem m_L_earnings (l : Launch) (hnt : l.stackTraces = false) {G : wy_G} {L : List Nat} {f : Nat → va_E} {sz oo : Nat} {ox lo : Nat} {ra ar : Nat → Nat} {n : Nat} {km mn : Int32} {wk : Nat} {po : Nat → Int32} {rr : Nat → wr_V} (hq : wx_S G L f ox lo ra ar n km mn wk po rr) (p1 p2 : Int32) : vx_Met l yL_earnings wsL_earnings ({ frames := 8, cells := 2, slots := 12, locals := 126 } : Room) (va_Pc [.ref ox, .int p1, .int p2, .ref oo] (wo_P G L f oo sz)) (wo_Q G L oo sz (wo_p G L f ox lo n km mn wk po (rr) (((earnS rr n p1 p2)).toInt64) (ewC wk p1 p2))) (fun _ _ _ => False) 2 12 (wy_A (L ++ [oo]) sz) := by
  refine vx_ofWH (cc := cL_earnings) (maxL := 5) (ret := (some .int)) (hh := [(0, 10, 13, 19), (0, 10, 17, 13)]) (by decide) rfl ?_
  intro p e s m args below meth c s₁ B hml hv
  obtain ⟨rfl, hP⟩ := hv
  obtain ⟨hw, hK, hA, hAo⟩ := wo_start hP
  obtain ⟨hv, hE, hZ, hN, hoo, hos, fo, hO⟩ := hP
  have hsz := hv.1
  subst hsz
  have hx := B.exec
  have hb := B.bytes
  have hr := B.returns
  have hts := atoms_spec (ws := wsL_earnings) B.pre
  have hown : s.vm.findClass RL = some m.cls := findClass_of_methodNamed B.named
  have hlocks := B.notSynchronized
  have htab := vx_table (x := yL_earnings) B (hts (.codeWith yL_earnings cL_earnings 5 (some .int) [(0, 10, 13, 19), (0, 10, 17, 13)]) List.mem_cons_self)
  have hl := lv_entry ([.ref ox, .int p1, .int p2, .ref oo]) (n := 5) (Nat.le_of_ble_eq_true rfl)
  rw [lg_entry_eq]
  generalize (lg_sl ([.ref ox, .int p1, .int p2, .ref oo]) ++ List.replicate (5 - (lg_sl ([.ref ox, .int p1, .int p2, .ref oo])).length) Slot.unset).toArray = ls at hl ⊢
  have hl : lv_has ls 5 [(0, .ref ox), (1, .int p1), (2, .int p2), (3, .ref oo)] := hl
  refine lv_aload_n hx hb dL_earnings_0 rfl (lv_at hl 3 rfl) ?_
  refine lv_iconst (v := 0) hx hb dL_earnings_1 (by decide) ?_
  refine lv_aload_n hx hb dL_earnings_2 rfl (lv_at hl 0 rfl) ?_
  refine lv_iload_n hx hb dL_earnings_3 rfl (lv_at hl 1 rfl) ?_
  refine lv_iload_n hx hb dL_earnings_4 rfl (lv_at hl 2 rfl) ?_
  refine wo_call (vx_runV (As := [.int p1, .int p2]) (rest := [.int 0, .ref oo]) ⟨hx, hb, hml, hown, hts⟩ (m_X1_earnings l hnt hq (p1) (p2)) (cwV 2 hts gL_earnings_X1_earnings rfl rfl rfl (by decide +kernel) ⟨Nat.le_of_ble_eq_true rfl, Nat.le_of_ble_eq_true rfl⟩) (wt_pV hK hE hw hA hq.1 rfl) rfl rfl hl.1 rfl (lv_room (Nat.le_of_ble_eq_true rfl)) dL_earnings_5 ⟨Nat.le_of_ble_eq_true rfl, Nat.le_of_ble_eq_true rfl⟩) hw hA hoo hos hO (fun E ce q H locs hpE hw hO hcell hcv hcl => ?_) (fun rw_1 Lw_1 fw_1 H locs hpost hw hooN hO => ?_)
  · rcases hpE with ⟨rfl, hC⟩ | ⟨rfl, hC⟩
    · refine vx_catch (own := RL) hown [] ⟨0, 10, 13, 19⟩ [⟨0, 10, 17, 13⟩] (htab.trans rfl) (fun z hz => absurd hz List.not_mem_nil) (by decide) (by decide) (hts (.classLink RL 19 "java/lang/IndexOutOfBoundsException") (by decide +kernel)) (va_Nw.use rfl (hE.2.2.1 _ (by decide))) hcell hcv hcl ?_
      refine lv_astore (lv' := [(4, .ref q), (0, .ref ox), (1, .int p1), (2, .int p2), (3, .ref oo)]) hx hb dL_earnings_13 hl (by decide) rfl (fun ls hl => ?_)
      refine lv_iconst (v := 1) hx hb dL_earnings_15 (by decide) ?_
      exact wo_ret hx hb hr hlocks dL_earnings_16 hw hO hoo (Nat.le_of_ble_eq_true rfl) (Nat.le_of_ble_eq_true rfl) ⟨hC.symm, fun z => absurd (hC.symm.trans z) (by decide), fun _ => ⟨rfl, rfl⟩⟩
    · refine vx_catch (own := RL) hown [⟨0, 10, 13, 19⟩] ⟨0, 10, 17, 13⟩ [] (htab.trans rfl) (fun z hz => by rw [List.mem_singleton.mp hz]; exact Or.inr ⟨by decide, _, hts (.classLink RL 19 "java/lang/IndexOutOfBoundsException") (by decide +kernel), hN.2.1⟩) (by decide) (by decide) (hts (.classLink RL 13 "java/lang/IllegalArgumentException") (by decide +kernel)) (va_Nw.use rfl (hE.2.2.1 _ (by decide))) hcell hcv hcl ?_
      refine lv_astore (lv' := [(4, .ref q), (0, .ref ox), (1, .int p1), (2, .int p2), (3, .ref oo)]) hx hb dL_earnings_17 hl (by decide) rfl (fun ls hl => ?_)
      refine lv_iconst (v := 2) hx hb dL_earnings_19 (by decide) ?_
      exact wo_ret hx hb hr hlocks dL_earnings_20 hw hO hoo (Nat.le_of_ble_eq_true rfl) (Nat.le_of_ble_eq_true rfl) ⟨hC.symm, fun z => absurd (hC.symm.trans z) (by decide), fun _ => ⟨rfl, rfl⟩⟩
  obtain ⟨hC, er, ra2, ar2, hS⟩ := hpost
  subst er
  refine lv_i2l (v := (earnS rr n p1 p2).toInt64) hx hb dL_earnings_8 rfl ?_
  refine wo_last hx hb hK hw hO hooN hAo dL_earnings_9 (fun H locs fo1 hfo hO hw => ?_)
  refine lv_goto (tgt := 21) hx hb dL_earnings_10 (by decide) ?_
  refine lv_iconst (v := 0) hx hb dL_earnings_21 (by decide) ?_
  exact wo_ret hx hb hr hlocks dL_earnings_22 hw hO hooN (Nat.le_of_ble_eq_true rfl) (Nat.le_of_ble_eq_true rfl) ⟨hC.symm, fun _ => ⟨hfo, ra2, ar2, hS⟩, fun z => absurd hC z⟩
set_option maxHeartbeats 4000000 in
set_option maxRecDepth 100000 in
theorem m_L_topUp (l : Launch) (hnt : l.stackTraces = false) {G : wy_G} {L : List Nat} {f : Nat → va_E} {sz oo : Nat} {ox lo : Nat} {ra ar : Nat → Nat} {n : Nat} {km mn : Int32} {wk : Nat} {po : Nat → Int32} {rr : Nat → wr_V} (hq : wx_S G L f ox lo ra ar n km mn wk po rr) (p1 p2 : Int32) : vx_Met l yL_topUp wsL_topUp ({ frames := 8, cells := 2, slots := 12, locals := 134 } : Room) (va_Pc [.ref ox, .int p1, .int p2, .ref oo] (wo_P G L f oo sz)) (wo_Q G L oo sz (wo_p G L f ox lo n km mn wk po (rr) (((topS rr n p1 p2)).toInt64) (ewC wk p1 p2))) (fun _ _ _ => False) 2 12 (wy_A (L ++ [oo]) sz) := by
  refine vx_ofWH (cc := cL_topUp) (maxL := 5) (ret := (some .int)) (hh := [(0, 10, 13, 19), (0, 10, 17, 13)]) (by decide) rfl ?_
  intro p e s m args below meth c s₁ B hml hv
  obtain ⟨rfl, hP⟩ := hv
  obtain ⟨hw, hK, hA, hAo⟩ := wo_start hP
  obtain ⟨hv, hE, hZ, hN, hoo, hos, fo, hO⟩ := hP
  have hsz := hv.1
  subst hsz
  have hx := B.exec
  have hb := B.bytes
  have hr := B.returns
  have hts := atoms_spec (ws := wsL_topUp) B.pre
  have hown : s.vm.findClass RL = some m.cls := findClass_of_methodNamed B.named
  have hlocks := B.notSynchronized
  have htab := vx_table (x := yL_topUp) B (hts (.codeWith yL_topUp cL_topUp 5 (some .int) [(0, 10, 13, 19), (0, 10, 17, 13)]) List.mem_cons_self)
  have hl := lv_entry ([.ref ox, .int p1, .int p2, .ref oo]) (n := 5) (Nat.le_of_ble_eq_true rfl)
  rw [lg_entry_eq]
  generalize (lg_sl ([.ref ox, .int p1, .int p2, .ref oo]) ++ List.replicate (5 - (lg_sl ([.ref ox, .int p1, .int p2, .ref oo])).length) Slot.unset).toArray = ls at hl ⊢
  have hl : lv_has ls 5 [(0, .ref ox), (1, .int p1), (2, .int p2), (3, .ref oo)] := hl
  refine lv_aload_n hx hb dL_topUp_0 rfl (lv_at hl 3 rfl) ?_
  refine lv_iconst (v := 0) hx hb dL_topUp_1 (by decide) ?_
  refine lv_aload_n hx hb dL_topUp_2 rfl (lv_at hl 0 rfl) ?_
  refine lv_iload_n hx hb dL_topUp_3 rfl (lv_at hl 1 rfl) ?_
  refine lv_iload_n hx hb dL_topUp_4 rfl (lv_at hl 2 rfl) ?_
  refine wo_call (vx_runV (As := [.int p1, .int p2]) (rest := [.int 0, .ref oo]) ⟨hx, hb, hml, hown, hts⟩ (m_X1_topUp l hnt hq (p1) (p2)) (cwV 2 hts gL_topUp_X1_topUp rfl rfl rfl (by decide +kernel) ⟨Nat.le_of_ble_eq_true rfl, Nat.le_of_ble_eq_true rfl⟩) (wt_pV hK hE hw hA hq.1 rfl) rfl rfl hl.1 rfl (lv_room (Nat.le_of_ble_eq_true rfl)) dL_topUp_5 ⟨Nat.le_of_ble_eq_true rfl, Nat.le_of_ble_eq_true rfl⟩) hw hA hoo hos hO (fun E ce q H locs hpE hw hO hcell hcv hcl => ?_) (fun rw_1 Lw_1 fw_1 H locs hpost hw hooN hO => ?_)
  · rcases hpE with ⟨rfl, hC⟩ | ⟨rfl, hC⟩
    · refine vx_catch (own := RL) hown [] ⟨0, 10, 13, 19⟩ [⟨0, 10, 17, 13⟩] (htab.trans rfl) (fun z hz => absurd hz List.not_mem_nil) (by decide) (by decide) (hts (.classLink RL 19 "java/lang/IndexOutOfBoundsException") (by decide +kernel)) (va_Nw.use rfl (hE.2.2.1 _ (by decide))) hcell hcv hcl ?_
      refine lv_astore (lv' := [(4, .ref q), (0, .ref ox), (1, .int p1), (2, .int p2), (3, .ref oo)]) hx hb dL_topUp_13 hl (by decide) rfl (fun ls hl => ?_)
      refine lv_iconst (v := 1) hx hb dL_topUp_15 (by decide) ?_
      exact wo_ret hx hb hr hlocks dL_topUp_16 hw hO hoo (Nat.le_of_ble_eq_true rfl) (Nat.le_of_ble_eq_true rfl) ⟨hC.symm, fun z => absurd (hC.symm.trans z) (by decide), fun _ => ⟨rfl, rfl⟩⟩
    · refine vx_catch (own := RL) hown [⟨0, 10, 13, 19⟩] ⟨0, 10, 17, 13⟩ [] (htab.trans rfl) (fun z hz => by rw [List.mem_singleton.mp hz]; exact Or.inr ⟨by decide, _, hts (.classLink RL 19 "java/lang/IndexOutOfBoundsException") (by decide +kernel), hN.2.1⟩) (by decide) (by decide) (hts (.classLink RL 13 "java/lang/IllegalArgumentException") (by decide +kernel)) (va_Nw.use rfl (hE.2.2.1 _ (by decide))) hcell hcv hcl ?_
      refine lv_astore (lv' := [(4, .ref q), (0, .ref ox), (1, .int p1), (2, .int p2), (3, .ref oo)]) hx hb dL_topUp_17 hl (by decide) rfl (fun ls hl => ?_)
      refine lv_iconst (v := 2) hx hb dL_topUp_19 (by decide) ?_
      exact wo_ret hx hb hr hlocks dL_topUp_20 hw hO hoo (Nat.le_of_ble_eq_true rfl) (Nat.le_of_ble_eq_true rfl) ⟨hC.symm, fun z => absurd (hC.symm.trans z) (by decide), fun _ => ⟨rfl, rfl⟩⟩
  obtain ⟨hC, er, ra2, ar2, hS⟩ := hpost
  subst er
  refine lv_i2l (v := (topS rr n p1 p2).toInt64) hx hb dL_topUp_8 rfl ?_
  refine wo_last hx hb hK hw hO hooN hAo dL_topUp_9 (fun H locs fo1 hfo hO hw => ?_)
  refine lv_goto (tgt := 21) hx hb dL_topUp_10 (by decide) ?_
  refine lv_iconst (v := 0) hx hb dL_topUp_21 (by decide) ?_
  exact wo_ret hx hb hr hlocks dL_topUp_22 hw hO hooN (Nat.le_of_ble_eq_true rfl) (Nat.le_of_ble_eq_true rfl) ⟨hC.symm, fun _ => ⟨hfo, ra2, ar2, hS⟩, fun z => absurd hC z⟩
set_option maxHeartbeats 4000000 in
set_option maxRecDepth 100000 in
theorem m_L_bonus (l : Launch) (hnt : l.stackTraces = false) {G : wy_G} {L : List Nat} {f : Nat → va_E} {sz oo : Nat} {ox lo : Nat} {ra ar : Nat → Nat} {n : Nat} {km mn : Int32} {wk : Nat} {po : Nat → Int32} {rr : Nat → wr_V} (hq : wx_S G L f ox lo ra ar n km mn wk po rr) (p1 p2 : Int32) : vx_Met l yL_bonus wsL_bonus ({ frames := 8, cells := 2, slots := 12, locals := 126 } : Room) (va_Pc [.ref ox, .int p1, .int p2, .ref oo] (wo_P G L f oo sz)) (wo_Q G L oo sz (wo_p G L f ox lo n km mn wk po (rr) (((bonS rr n p1 p2)).toInt64) (ewC wk p1 p2))) (fun _ _ _ => False) 2 12 (wy_A (L ++ [oo]) sz) := by
  refine vx_ofWH (cc := cL_bonus) (maxL := 5) (ret := (some .int)) (hh := [(0, 10, 13, 19), (0, 10, 17, 13)]) (by decide) rfl ?_
  intro p e s m args below meth c s₁ B hml hv
  obtain ⟨rfl, hP⟩ := hv
  obtain ⟨hw, hK, hA, hAo⟩ := wo_start hP
  obtain ⟨hv, hE, hZ, hN, hoo, hos, fo, hO⟩ := hP
  have hsz := hv.1
  subst hsz
  have hx := B.exec
  have hb := B.bytes
  have hr := B.returns
  have hts := atoms_spec (ws := wsL_bonus) B.pre
  have hown : s.vm.findClass RL = some m.cls := findClass_of_methodNamed B.named
  have hlocks := B.notSynchronized
  have htab := vx_table (x := yL_bonus) B (hts (.codeWith yL_bonus cL_bonus 5 (some .int) [(0, 10, 13, 19), (0, 10, 17, 13)]) List.mem_cons_self)
  have hl := lv_entry ([.ref ox, .int p1, .int p2, .ref oo]) (n := 5) (Nat.le_of_ble_eq_true rfl)
  rw [lg_entry_eq]
  generalize (lg_sl ([.ref ox, .int p1, .int p2, .ref oo]) ++ List.replicate (5 - (lg_sl ([.ref ox, .int p1, .int p2, .ref oo])).length) Slot.unset).toArray = ls at hl ⊢
  have hl : lv_has ls 5 [(0, .ref ox), (1, .int p1), (2, .int p2), (3, .ref oo)] := hl
  refine lv_aload_n hx hb dL_bonus_0 rfl (lv_at hl 3 rfl) ?_
  refine lv_iconst (v := 0) hx hb dL_bonus_1 (by decide) ?_
  refine lv_aload_n hx hb dL_bonus_2 rfl (lv_at hl 0 rfl) ?_
  refine lv_iload_n hx hb dL_bonus_3 rfl (lv_at hl 1 rfl) ?_
  refine lv_iload_n hx hb dL_bonus_4 rfl (lv_at hl 2 rfl) ?_
  refine wo_call (vx_runV (As := [.int p1, .int p2]) (rest := [.int 0, .ref oo]) ⟨hx, hb, hml, hown, hts⟩ (m_X1_bonus l hnt hq (p1) (p2)) (cwV 2 hts gL_bonus_X1_bonus rfl rfl rfl (by decide +kernel) ⟨Nat.le_of_ble_eq_true rfl, Nat.le_of_ble_eq_true rfl⟩) (wt_pV hK hE hw hA hq.1 rfl) rfl rfl hl.1 rfl (lv_room (Nat.le_of_ble_eq_true rfl)) dL_bonus_5 ⟨Nat.le_of_ble_eq_true rfl, Nat.le_of_ble_eq_true rfl⟩) hw hA hoo hos hO (fun E ce q H locs hpE hw hO hcell hcv hcl => ?_) (fun rw_1 Lw_1 fw_1 H locs hpost hw hooN hO => ?_)
  · rcases hpE with ⟨rfl, hC⟩ | ⟨rfl, hC⟩
    · refine vx_catch (own := RL) hown [] ⟨0, 10, 13, 19⟩ [⟨0, 10, 17, 13⟩] (htab.trans rfl) (fun z hz => absurd hz List.not_mem_nil) (by decide) (by decide) (hts (.classLink RL 19 "java/lang/IndexOutOfBoundsException") (by decide +kernel)) (va_Nw.use rfl (hE.2.2.1 _ (by decide))) hcell hcv hcl ?_
      refine lv_astore (lv' := [(4, .ref q), (0, .ref ox), (1, .int p1), (2, .int p2), (3, .ref oo)]) hx hb dL_bonus_13 hl (by decide) rfl (fun ls hl => ?_)
      refine lv_iconst (v := 1) hx hb dL_bonus_15 (by decide) ?_
      exact wo_ret hx hb hr hlocks dL_bonus_16 hw hO hoo (Nat.le_of_ble_eq_true rfl) (Nat.le_of_ble_eq_true rfl) ⟨hC.symm, fun z => absurd (hC.symm.trans z) (by decide), fun _ => ⟨rfl, rfl⟩⟩
    · refine vx_catch (own := RL) hown [⟨0, 10, 13, 19⟩] ⟨0, 10, 17, 13⟩ [] (htab.trans rfl) (fun z hz => by rw [List.mem_singleton.mp hz]; exact Or.inr ⟨by decide, _, hts (.classLink RL 19 "java/lang/IndexOutOfBoundsException") (by decide +kernel), hN.2.1⟩) (by decide) (by decide) (hts (.classLink RL 13 "java/lang/IllegalArgumentException") (by decide +kernel)) (va_Nw.use rfl (hE.2.2.1 _ (by decide))) hcell hcv hcl ?_
      refine lv_astore (lv' := [(4, .ref q), (0, .ref ox), (1, .int p1), (2, .int p2), (3, .ref oo)]) hx hb dL_bonus_17 hl (by decide) rfl (fun ls hl => ?_)
      refine lv_iconst (v := 2) hx hb dL_bonus_19 (by decide) ?_
      exact wo_ret hx hb hr hlocks dL_bonus_20 hw hO hoo (Nat.le_of_ble_eq_true rfl) (Nat.le_of_ble_eq_true rfl) ⟨hC.symm, fun z => absurd (hC.symm.trans z) (by decide), fun _ => ⟨rfl, rfl⟩⟩
  obtain ⟨hC, er, ra2, ar2, hS⟩ := hpost
  subst er
  refine lv_i2l (v := (bonS rr n p1 p2).toInt64) hx hb dL_bonus_8 rfl ?_
  refine wo_last hx hb hK hw hO hooN hAo dL_bonus_9 (fun H locs fo1 hfo hO hw => ?_)
  refine lv_goto (tgt := 21) hx hb dL_bonus_10 (by decide) ?_
  refine lv_iconst (v := 0) hx hb dL_bonus_21 (by decide) ?_
  exact wo_ret hx hb hr hlocks dL_bonus_22 hw hO hooN (Nat.le_of_ble_eq_true rfl) (Nat.le_of_ble_eq_true rfl) ⟨hC.symm, fun _ => ⟨hfo, ra2, ar2, hS⟩, fun z => absurd hC z⟩
set_option maxHeartbeats 4000000 in
set_option maxRecDepth 100000 in
theorem m_L_pay (l : Launch) (hnt : l.stackTraces = false) {G : wy_G} {L : List Nat} {f : Nat → va_E} {sz oo : Nat} {ox lo : Nat} {ra ar : Nat → Nat} {n : Nat} {km mn : Int32} {wk : Nat} {po : Nat → Int32} {rr : Nat → wr_V} (hq : wx_S G L f ox lo ra ar n km mn wk po rr) (p1 p2 : Int32) : vx_Met l yL_pay wsL_pay ({ frames := 8, cells := 2, slots := 12, locals := 157 } : Room) (va_Pc [.ref ox, .int p1, .int p2, .ref oo] (wo_P G L f oo sz)) (wo_Q G L oo sz (wo_p G L f ox lo n km mn wk po (rr) (((payS rr n p1 p2)).toInt64) (ewC wk p1 p2))) (fun _ _ _ => False) 2 12 (wy_A (L ++ [oo]) sz) := by
  refine vx_ofWH (cc := cL_pay) (maxL := 5) (ret := (some .int)) (hh := [(0, 10, 13, 19), (0, 10, 17, 13)]) (by decide) rfl ?_
  intro p e s m args below meth c s₁ B hml hv
  obtain ⟨rfl, hP⟩ := hv
  obtain ⟨hw, hK, hA, hAo⟩ := wo_start hP
  obtain ⟨hv, hE, hZ, hN, hoo, hos, fo, hO⟩ := hP
  have hsz := hv.1
  subst hsz
  have hx := B.exec
  have hb := B.bytes
  have hr := B.returns
  have hts := atoms_spec (ws := wsL_pay) B.pre
  have hown : s.vm.findClass RL = some m.cls := findClass_of_methodNamed B.named
  have hlocks := B.notSynchronized
  have htab := vx_table (x := yL_pay) B (hts (.codeWith yL_pay cL_pay 5 (some .int) [(0, 10, 13, 19), (0, 10, 17, 13)]) List.mem_cons_self)
  have hl := lv_entry ([.ref ox, .int p1, .int p2, .ref oo]) (n := 5) (Nat.le_of_ble_eq_true rfl)
  rw [lg_entry_eq]
  generalize (lg_sl ([.ref ox, .int p1, .int p2, .ref oo]) ++ List.replicate (5 - (lg_sl ([.ref ox, .int p1, .int p2, .ref oo])).length) Slot.unset).toArray = ls at hl ⊢
  have hl : lv_has ls 5 [(0, .ref ox), (1, .int p1), (2, .int p2), (3, .ref oo)] := hl
  refine lv_aload_n hx hb dL_pay_0 rfl (lv_at hl 3 rfl) ?_
  refine lv_iconst (v := 0) hx hb dL_pay_1 (by decide) ?_
  refine lv_aload_n hx hb dL_pay_2 rfl (lv_at hl 0 rfl) ?_
  refine lv_iload_n hx hb dL_pay_3 rfl (lv_at hl 1 rfl) ?_
  refine lv_iload_n hx hb dL_pay_4 rfl (lv_at hl 2 rfl) ?_
  refine wo_call (vx_runV (As := [.int p1, .int p2]) (rest := [.int 0, .ref oo]) ⟨hx, hb, hml, hown, hts⟩ (m_X1_pay l hnt hq (p1) (p2)) (cwV 2 hts gL_pay_X1_pay rfl rfl rfl (by decide +kernel) ⟨Nat.le_of_ble_eq_true rfl, Nat.le_of_ble_eq_true rfl⟩) (wt_pV hK hE hw hA hq.1 rfl) rfl rfl hl.1 rfl (lv_room (Nat.le_of_ble_eq_true rfl)) dL_pay_5 ⟨Nat.le_of_ble_eq_true rfl, Nat.le_of_ble_eq_true rfl⟩) hw hA hoo hos hO (fun E ce q H locs hpE hw hO hcell hcv hcl => ?_) (fun rw_1 Lw_1 fw_1 H locs hpost hw hooN hO => ?_)
  · rcases hpE with ⟨rfl, hC⟩ | ⟨rfl, hC⟩
    · refine vx_catch (own := RL) hown [] ⟨0, 10, 13, 19⟩ [⟨0, 10, 17, 13⟩] (htab.trans rfl) (fun z hz => absurd hz List.not_mem_nil) (by decide) (by decide) (hts (.classLink RL 19 "java/lang/IndexOutOfBoundsException") (by decide +kernel)) (va_Nw.use rfl (hE.2.2.1 _ (by decide))) hcell hcv hcl ?_
      refine lv_astore (lv' := [(4, .ref q), (0, .ref ox), (1, .int p1), (2, .int p2), (3, .ref oo)]) hx hb dL_pay_13 hl (by decide) rfl (fun ls hl => ?_)
      refine lv_iconst (v := 1) hx hb dL_pay_15 (by decide) ?_
      exact wo_ret hx hb hr hlocks dL_pay_16 hw hO hoo (Nat.le_of_ble_eq_true rfl) (Nat.le_of_ble_eq_true rfl) ⟨hC.symm, fun z => absurd (hC.symm.trans z) (by decide), fun _ => ⟨rfl, rfl⟩⟩
    · refine vx_catch (own := RL) hown [⟨0, 10, 13, 19⟩] ⟨0, 10, 17, 13⟩ [] (htab.trans rfl) (fun z hz => by rw [List.mem_singleton.mp hz]; exact Or.inr ⟨by decide, _, hts (.classLink RL 19 "java/lang/IndexOutOfBoundsException") (by decide +kernel), hN.2.1⟩) (by decide) (by decide) (hts (.classLink RL 13 "java/lang/IllegalArgumentException") (by decide +kernel)) (va_Nw.use rfl (hE.2.2.1 _ (by decide))) hcell hcv hcl ?_
      refine lv_astore (lv' := [(4, .ref q), (0, .ref ox), (1, .int p1), (2, .int p2), (3, .ref oo)]) hx hb dL_pay_17 hl (by decide) rfl (fun ls hl => ?_)
      refine lv_iconst (v := 2) hx hb dL_pay_19 (by decide) ?_
      exact wo_ret hx hb hr hlocks dL_pay_20 hw hO hoo (Nat.le_of_ble_eq_true rfl) (Nat.le_of_ble_eq_true rfl) ⟨hC.symm, fun z => absurd (hC.symm.trans z) (by decide), fun _ => ⟨rfl, rfl⟩⟩
  obtain ⟨hC, er, ra2, ar2, hS⟩ := hpost
  subst er
  refine lv_i2l (v := (payS rr n p1 p2).toInt64) hx hb dL_pay_8 rfl ?_
  refine wo_last hx hb hK hw hO hooN hAo dL_pay_9 (fun H locs fo1 hfo hO hw => ?_)
  refine lv_goto (tgt := 21) hx hb dL_pay_10 (by decide) ?_
  refine lv_iconst (v := 0) hx hb dL_pay_21 (by decide) ?_
  exact wo_ret hx hb hr hlocks dL_pay_22 hw hO hooN (Nat.le_of_ble_eq_true rfl) (Nat.le_of_ble_eq_true rfl) ⟨hC.symm, fun _ => ⟨hfo, ra2, ar2, hS⟩, fun z => absurd hC z⟩
set_option maxHeartbeats 4000000 in
set_option maxRecDepth 100000 in
theorem m_L_balance (l : Launch) (hnt : l.stackTraces = false) {G : wy_G} {L : List Nat} {f : Nat → va_E} {sz oo : Nat} {ox lo : Nat} {ra ar : Nat → Nat} {n : Nat} {km mn : Int32} {wk : Nat} {po : Nat → Int32} {rr : Nat → wr_V} (hq : wx_S G L f ox lo ra ar n km mn wk po rr) (p1 : Int32) : vx_Met l yL_balance wsL_balance ({ frames := 9, cells := 1, slots := 6, locals := 201 } : Room) (va_Pc [.ref ox, .int p1, .ref oo] (wo_P G L f oo sz)) (wo_Q G L oo sz (wo_p G L f ox lo n km mn wk po (rr) (((dueS rr n po wk (ix p1))).toInt64) (okC 5 p1))) (fun _ _ _ => False) 1 6 (wy_A (L ++ [oo]) sz) := by
  refine vx_ofWH (cc := cL_balance) (maxL := 4) (ret := (some .int)) (hh := [(0, 9, 12, 19)]) (by decide) rfl ?_
  intro p e s m args below meth c s₁ B hml hv
  obtain ⟨rfl, hP⟩ := hv
  obtain ⟨hw, hK, hA, hAo⟩ := wo_start hP
  obtain ⟨hv, hE, hZ, hN, hoo, hos, fo, hO⟩ := hP
  have hsz := hv.1
  subst hsz
  have hx := B.exec
  have hb := B.bytes
  have hr := B.returns
  have hts := atoms_spec (ws := wsL_balance) B.pre
  have hown : s.vm.findClass RL = some m.cls := findClass_of_methodNamed B.named
  have hlocks := B.notSynchronized
  have htab := vx_table (x := yL_balance) B (hts (.codeWith yL_balance cL_balance 4 (some .int) [(0, 9, 12, 19)]) List.mem_cons_self)
  have hl := lv_entry ([.ref ox, .int p1, .ref oo]) (n := 4) (Nat.le_of_ble_eq_true rfl)
  rw [lg_entry_eq]
  generalize (lg_sl ([.ref ox, .int p1, .ref oo]) ++ List.replicate (4 - (lg_sl ([.ref ox, .int p1, .ref oo])).length) Slot.unset).toArray = ls at hl ⊢
  have hl : lv_has ls 4 [(0, .ref ox), (1, .int p1), (2, .ref oo)] := hl
  refine lv_aload_n hx hb dL_balance_0 rfl (lv_at hl 2 rfl) ?_
  refine lv_iconst (v := 0) hx hb dL_balance_1 (by decide) ?_
  refine lv_aload_n hx hb dL_balance_2 rfl (lv_at hl 0 rfl) ?_
  refine lv_iload_n hx hb dL_balance_3 rfl (lv_at hl 1 rfl) ?_
  refine wo_call (vx_runV (As := [.int p1]) (rest := [.int 0, .ref oo]) ⟨hx, hb, hml, hown, hts⟩ (m_X1_balance l hnt hq (p1)) (cwV 1 hts gL_balance_X1_balance rfl rfl rfl (by decide +kernel) ⟨Nat.le_of_ble_eq_true rfl, Nat.le_of_ble_eq_true rfl⟩) (wt_pV hK hE hw hA hq.1 rfl) rfl rfl hl.1 rfl (lv_room (Nat.le_of_ble_eq_true rfl)) dL_balance_4 ⟨Nat.le_of_ble_eq_true rfl, Nat.le_of_ble_eq_true rfl⟩) hw hA hoo hos hO (fun E ce q H locs hpE hw hO hcell hcv hcl => ?_) (fun rw_1 Lw_1 fw_1 H locs hpost hw hooN hO => ?_)
  · obtain ⟨rfl, hC⟩ := hpE
    refine vx_catch (own := RL) hown [] ⟨0, 9, 12, 19⟩ [] (htab.trans rfl) (fun z hz => absurd hz List.not_mem_nil) (by decide) (by decide) (hts (.classLink RL 19 "java/lang/IndexOutOfBoundsException") (by decide +kernel)) (va_Nw.use rfl (hE.2.2.1 _ (by decide))) hcell hcv hcl ?_
    refine lv_astore_n (lv' := [(3, .ref q), (0, .ref ox), (1, .int p1), (2, .ref oo)]) hx hb dL_balance_12 rfl hl (by decide) rfl (fun ls hl => ?_)
    refine lv_iconst (v := 1) hx hb dL_balance_13 (by decide) ?_
    exact wo_ret hx hb hr hlocks dL_balance_14 hw hO hoo (Nat.le_of_ble_eq_true rfl) (Nat.le_of_ble_eq_true rfl) ⟨hC.symm, fun z => absurd (hC.symm.trans z) (by decide), fun _ => ⟨rfl, rfl⟩⟩
  obtain ⟨hC, er, ra2, ar2, hS⟩ := hpost
  subst er
  refine lv_i2l (v := (dueS rr n po wk (ix p1)).toInt64) hx hb dL_balance_7 rfl ?_
  refine wo_last hx hb hK hw hO hooN hAo dL_balance_8 (fun H locs fo1 hfo hO hw => ?_)
  refine lv_goto (tgt := 15) hx hb dL_balance_9 (by decide) ?_
  refine lv_iconst (v := 0) hx hb dL_balance_15 (by decide) ?_
  exact wo_ret hx hb hr hlocks dL_balance_16 hw hO hooN (Nat.le_of_ble_eq_true rfl) (Nat.le_of_ble_eq_true rfl) ⟨hC.symm, fun _ => ⟨hfo, ra2, ar2, hS⟩, fun z => absurd hC z⟩
set_option maxHeartbeats 4000000 in
set_option maxRecDepth 100000 in
theorem m_L_paid (l : Launch) (hnt : l.stackTraces = false) {G : wy_G} {L : List Nat} {f : Nat → va_E} {sz oo : Nat} {ox lo : Nat} {ra ar : Nat → Nat} {n : Nat} {km mn : Int32} {wk : Nat} {po : Nat → Int32} {rr : Nat → wr_V} (hq : wx_S G L f ox lo ra ar n km mn wk po rr) (p1 : Int32) : vx_Met l yL_paid wsL_paid ({ frames := 8, cells := 1, slots := 6, locals := 123 } : Room) (va_Pc [.ref ox, .int p1, .ref oo] (wo_P G L f oo sz)) (wo_Q G L oo sz (wo_p G L f ox lo n km mn wk po (rr) (((po (ix p1))).toInt64) (okC 5 p1))) (fun _ _ _ => False) 1 6 (wy_A (L ++ [oo]) sz) := by
  refine vx_ofWH (cc := cL_paid) (maxL := 4) (ret := (some .int)) (hh := [(0, 9, 12, 19)]) (by decide) rfl ?_
  intro p e s m args below meth c s₁ B hml hv
  obtain ⟨rfl, hP⟩ := hv
  obtain ⟨hw, hK, hA, hAo⟩ := wo_start hP
  obtain ⟨hv, hE, hZ, hN, hoo, hos, fo, hO⟩ := hP
  have hsz := hv.1
  subst hsz
  have hx := B.exec
  have hb := B.bytes
  have hr := B.returns
  have hts := atoms_spec (ws := wsL_paid) B.pre
  have hown : s.vm.findClass RL = some m.cls := findClass_of_methodNamed B.named
  have hlocks := B.notSynchronized
  have htab := vx_table (x := yL_paid) B (hts (.codeWith yL_paid cL_paid 4 (some .int) [(0, 9, 12, 19)]) List.mem_cons_self)
  have hl := lv_entry ([.ref ox, .int p1, .ref oo]) (n := 4) (Nat.le_of_ble_eq_true rfl)
  rw [lg_entry_eq]
  generalize (lg_sl ([.ref ox, .int p1, .ref oo]) ++ List.replicate (4 - (lg_sl ([.ref ox, .int p1, .ref oo])).length) Slot.unset).toArray = ls at hl ⊢
  have hl : lv_has ls 4 [(0, .ref ox), (1, .int p1), (2, .ref oo)] := hl
  refine lv_aload_n hx hb dL_paid_0 rfl (lv_at hl 2 rfl) ?_
  refine lv_iconst (v := 0) hx hb dL_paid_1 (by decide) ?_
  refine lv_aload_n hx hb dL_paid_2 rfl (lv_at hl 0 rfl) ?_
  refine lv_iload_n hx hb dL_paid_3 rfl (lv_at hl 1 rfl) ?_
  refine wo_call (vx_runV (As := [.int p1]) (rest := [.int 0, .ref oo]) ⟨hx, hb, hml, hown, hts⟩ (m_X1_paid l hnt hq (p1)) (cwV 1 hts gL_paid_X1_paid rfl rfl rfl (by decide +kernel) ⟨Nat.le_of_ble_eq_true rfl, Nat.le_of_ble_eq_true rfl⟩) (wt_pV hK hE hw hA hq.1 rfl) rfl rfl hl.1 rfl (lv_room (Nat.le_of_ble_eq_true rfl)) dL_paid_4 ⟨Nat.le_of_ble_eq_true rfl, Nat.le_of_ble_eq_true rfl⟩) hw hA hoo hos hO (fun E ce q H locs hpE hw hO hcell hcv hcl => ?_) (fun rw_1 Lw_1 fw_1 H locs hpost hw hooN hO => ?_)
  · obtain ⟨rfl, hC⟩ := hpE
    refine vx_catch (own := RL) hown [] ⟨0, 9, 12, 19⟩ [] (htab.trans rfl) (fun z hz => absurd hz List.not_mem_nil) (by decide) (by decide) (hts (.classLink RL 19 "java/lang/IndexOutOfBoundsException") (by decide +kernel)) (va_Nw.use rfl (hE.2.2.1 _ (by decide))) hcell hcv hcl ?_
    refine lv_astore_n (lv' := [(3, .ref q), (0, .ref ox), (1, .int p1), (2, .ref oo)]) hx hb dL_paid_12 rfl hl (by decide) rfl (fun ls hl => ?_)
    refine lv_iconst (v := 1) hx hb dL_paid_13 (by decide) ?_
    exact wo_ret hx hb hr hlocks dL_paid_14 hw hO hoo (Nat.le_of_ble_eq_true rfl) (Nat.le_of_ble_eq_true rfl) ⟨hC.symm, fun z => absurd (hC.symm.trans z) (by decide), fun _ => ⟨rfl, rfl⟩⟩
  obtain ⟨hC, er, ra2, ar2, hS⟩ := hpost
  subst er
  refine lv_i2l (v := (po (ix p1)).toInt64) hx hb dL_paid_7 rfl ?_
  refine wo_last hx hb hK hw hO hooN hAo dL_paid_8 (fun H locs fo1 hfo hO hw => ?_)
  refine lv_goto (tgt := 15) hx hb dL_paid_9 (by decide) ?_
  refine lv_iconst (v := 0) hx hb dL_paid_15 (by decide) ?_
  exact wo_ret hx hb hr hlocks dL_paid_16 hw hO hooN (Nat.le_of_ble_eq_true rfl) (Nat.le_of_ble_eq_true rfl) ⟨hC.symm, fun _ => ⟨hfo, ra2, ar2, hS⟩, fun z => absurd hC z⟩
set_option maxHeartbeats 4000000 in
set_option maxRecDepth 100000 in
theorem m_L_spent (l : Launch) (hnt : l.stackTraces = false) {G : wy_G} {L : List Nat} {f : Nat → va_E} {sz oo : Nat} {ox lo : Nat} {ra ar : Nat → Nat} {n : Nat} {km mn : Int32} {wk : Nat} {po : Nat → Int32} {rr : Nat → wr_V} (hq : wx_S G L f ox lo ra ar n km mn wk po rr) (p1 : Int32) : vx_Met l yL_spent wsL_spent ({ frames := 8, cells := 1, slots := 6, locals := 126 } : Room) (va_Pc [.ref ox, .int p1, .ref oo] (wo_P G L f oo sz)) (wo_Q G L oo sz (wo_p G L f ox lo n km mn wk po (rr) (((spdS rr n (ix p1))).toInt64) (okC 10 p1))) (fun _ _ _ => False) 1 6 (wy_A (L ++ [oo]) sz) := by
  refine vx_ofWH (cc := cL_spent) (maxL := 4) (ret := (some .int)) (hh := [(0, 9, 12, 19)]) (by decide) rfl ?_
  intro p e s m args below meth c s₁ B hml hv
  obtain ⟨rfl, hP⟩ := hv
  obtain ⟨hw, hK, hA, hAo⟩ := wo_start hP
  obtain ⟨hv, hE, hZ, hN, hoo, hos, fo, hO⟩ := hP
  have hsz := hv.1
  subst hsz
  have hx := B.exec
  have hb := B.bytes
  have hr := B.returns
  have hts := atoms_spec (ws := wsL_spent) B.pre
  have hown : s.vm.findClass RL = some m.cls := findClass_of_methodNamed B.named
  have hlocks := B.notSynchronized
  have htab := vx_table (x := yL_spent) B (hts (.codeWith yL_spent cL_spent 4 (some .int) [(0, 9, 12, 19)]) List.mem_cons_self)
  have hl := lv_entry ([.ref ox, .int p1, .ref oo]) (n := 4) (Nat.le_of_ble_eq_true rfl)
  rw [lg_entry_eq]
  generalize (lg_sl ([.ref ox, .int p1, .ref oo]) ++ List.replicate (4 - (lg_sl ([.ref ox, .int p1, .ref oo])).length) Slot.unset).toArray = ls at hl ⊢
  have hl : lv_has ls 4 [(0, .ref ox), (1, .int p1), (2, .ref oo)] := hl
  refine lv_aload_n hx hb dL_spent_0 rfl (lv_at hl 2 rfl) ?_
  refine lv_iconst (v := 0) hx hb dL_spent_1 (by decide) ?_
  refine lv_aload_n hx hb dL_spent_2 rfl (lv_at hl 0 rfl) ?_
  refine lv_iload_n hx hb dL_spent_3 rfl (lv_at hl 1 rfl) ?_
  refine wo_call (vx_runV (As := [.int p1]) (rest := [.int 0, .ref oo]) ⟨hx, hb, hml, hown, hts⟩ (m_X1_spent l hnt hq (p1)) (cwV 1 hts gL_spent_X1_spent rfl rfl rfl (by decide +kernel) ⟨Nat.le_of_ble_eq_true rfl, Nat.le_of_ble_eq_true rfl⟩) (wt_pV hK hE hw hA hq.1 rfl) rfl rfl hl.1 rfl (lv_room (Nat.le_of_ble_eq_true rfl)) dL_spent_4 ⟨Nat.le_of_ble_eq_true rfl, Nat.le_of_ble_eq_true rfl⟩) hw hA hoo hos hO (fun E ce q H locs hpE hw hO hcell hcv hcl => ?_) (fun rw_1 Lw_1 fw_1 H locs hpost hw hooN hO => ?_)
  · obtain ⟨rfl, hC⟩ := hpE
    refine vx_catch (own := RL) hown [] ⟨0, 9, 12, 19⟩ [] (htab.trans rfl) (fun z hz => absurd hz List.not_mem_nil) (by decide) (by decide) (hts (.classLink RL 19 "java/lang/IndexOutOfBoundsException") (by decide +kernel)) (va_Nw.use rfl (hE.2.2.1 _ (by decide))) hcell hcv hcl ?_
    refine lv_astore_n (lv' := [(3, .ref q), (0, .ref ox), (1, .int p1), (2, .ref oo)]) hx hb dL_spent_12 rfl hl (by decide) rfl (fun ls hl => ?_)
    refine lv_iconst (v := 1) hx hb dL_spent_13 (by decide) ?_
    exact wo_ret hx hb hr hlocks dL_spent_14 hw hO hoo (Nat.le_of_ble_eq_true rfl) (Nat.le_of_ble_eq_true rfl) ⟨hC.symm, fun z => absurd (hC.symm.trans z) (by decide), fun _ => ⟨rfl, rfl⟩⟩
  obtain ⟨hC, er, ra2, ar2, hS⟩ := hpost
  subst er
  refine lv_i2l (v := (spdS rr n (ix p1)).toInt64) hx hb dL_spent_7 rfl ?_
  refine wo_last hx hb hK hw hO hooN hAo dL_spent_8 (fun H locs fo1 hfo hO hw => ?_)
  refine lv_goto (tgt := 15) hx hb dL_spent_9 (by decide) ?_
  refine lv_iconst (v := 0) hx hb dL_spent_15 (by decide) ?_
  exact wo_ret hx hb hr hlocks dL_spent_16 hw hO hooN (Nat.le_of_ble_eq_true rfl) (Nat.le_of_ble_eq_true rfl) ⟨hC.symm, fun _ => ⟨hfo, ra2, ar2, hS⟩, fun z => absurd hC z⟩
set_option maxHeartbeats 4000000 in
set_option maxRecDepth 100000 in
theorem m_L_settle (l : Launch) (hnt : l.stackTraces = false) {G : wy_G} {L : List Nat} {f : Nat → va_E} {sz oo : Nat} {ox lo : Nat} {ra ar : Nat → Nat} {n : Nat} {km mn : Int32} {wk : Nat} {po : Nat → Int32} {rr : Nat → wr_V} (hq : wx_S G L f ox lo ra ar n km mn wk po rr) (p1 p2 p3 : Int32) (bb : Bool) : vx_Met l yL_settle wsL_settle ({ frames := 8, cells := 4, slots := 24, locals := 129 } : Room) (va_Pc [.ref ox, .int p1, .int p2, .int p3, .int (bI bb), .ref oo] (wo_P G L f oo sz)) (wo_Q G L oo sz (wo_p G L f ox lo n km mn wk po (va_up rr (ix p1) (vRef (rr (ix p1)) (ix p2) p3 bb)) (((rfv (rr (ix p1)) (ix p2) p3)).toInt64) (slC n p1 p2 p3 (!rdp (rr (ix p1)) (ix p2) || rse (rr (ix p1)) (ix p2))))) (fun _ _ _ => False) 4 24 (wy_A (L ++ [oo]) sz) := by
  refine vx_ofWH (cc := cL_settle) (maxL := 7) (ret := (some .int)) (hh := [(0, 14, 17, 19), (0, 14, 21, 13), (0, 14, 25, 21)]) (by decide) rfl ?_
  intro p e s m args below meth c s₁ B hml hv
  obtain ⟨rfl, hP⟩ := hv
  obtain ⟨hw, hK, hA, hAo⟩ := wo_start hP
  obtain ⟨hv, hE, hZ, hN, hoo, hos, fo, hO⟩ := hP
  have hsz := hv.1
  subst hsz
  have hx := B.exec
  have hb := B.bytes
  have hr := B.returns
  have hts := atoms_spec (ws := wsL_settle) B.pre
  have hown : s.vm.findClass RL = some m.cls := findClass_of_methodNamed B.named
  have hlocks := B.notSynchronized
  have htab := vx_table (x := yL_settle) B (hts (.codeWith yL_settle cL_settle 7 (some .int) [(0, 14, 17, 19), (0, 14, 21, 13), (0, 14, 25, 21)]) List.mem_cons_self)
  have hl := lv_entry ([.ref ox, .int p1, .int p2, .int p3, .int (bI bb), .ref oo]) (n := 7) (Nat.le_of_ble_eq_true rfl)
  rw [lg_entry_eq]
  generalize (lg_sl ([.ref ox, .int p1, .int p2, .int p3, .int (bI bb), .ref oo]) ++ List.replicate (7 - (lg_sl ([.ref ox, .int p1, .int p2, .int p3, .int (bI bb), .ref oo])).length) Slot.unset).toArray = ls at hl ⊢
  have hl : lv_has ls 7 [(0, .ref ox), (1, .int p1), (2, .int p2), (3, .int p3), (4, .int (bI bb)), (5, .ref oo)] := hl
  refine lv_aload hx hb dL_settle_0 (lv_at hl 5 rfl) ?_
  refine lv_iconst (v := 0) hx hb dL_settle_2 (by decide) ?_
  refine lv_aload_n hx hb dL_settle_3 rfl (lv_at hl 0 rfl) ?_
  refine lv_iload_n hx hb dL_settle_4 rfl (lv_at hl 1 rfl) ?_
  refine lv_iload_n hx hb dL_settle_5 rfl (lv_at hl 2 rfl) ?_
  refine lv_iload_n hx hb dL_settle_6 rfl (lv_at hl 3 rfl) ?_
  refine lv_iload hx hb dL_settle_7 (lv_at hl 4 rfl) ?_
  refine wo_call (vx_runV (As := [.int p1, .int p2, .int p3, .int (bI bb)]) (rest := [.int 0, .ref oo]) ⟨hx, hb, hml, hown, hts⟩ (m_X1_settle l hnt hq (p1) (p2) (p3) (bb)) (cwV 4 hts gL_settle_X1_settle rfl rfl rfl (by decide +kernel) ⟨Nat.le_of_ble_eq_true rfl, Nat.le_of_ble_eq_true rfl⟩) (wt_pV hK hE hw hA hq.1 rfl) rfl rfl hl.1 rfl (lv_room (Nat.le_of_ble_eq_true rfl)) dL_settle_9 ⟨Nat.le_of_ble_eq_true rfl, Nat.le_of_ble_eq_true rfl⟩) hw hA hoo hos hO (fun E ce q H locs hpE hw hO hcell hcv hcl => ?_) (fun rw_1 Lw_1 fw_1 H locs hpost hw hooN hO => ?_)
  · rcases hpE with ⟨rfl, hC⟩ | ⟨rfl, hC⟩ | ⟨rfl, hC⟩
    · refine vx_catch (own := RL) hown [] ⟨0, 14, 17, 19⟩ [⟨0, 14, 21, 13⟩, ⟨0, 14, 25, 21⟩] (htab.trans rfl) (fun z hz => absurd hz List.not_mem_nil) (by decide) (by decide) (hts (.classLink RL 19 "java/lang/IndexOutOfBoundsException") (by decide +kernel)) (va_Nw.use rfl (hE.2.2.1 _ (by decide))) hcell hcv hcl ?_
      refine lv_astore (lv' := [(6, .ref q), (0, .ref ox), (1, .int p1), (2, .int p2), (3, .int p3), (4, .int (bI bb)), (5, .ref oo)]) hx hb dL_settle_17 hl (by decide) rfl (fun ls hl => ?_)
      refine lv_iconst (v := 1) hx hb dL_settle_19 (by decide) ?_
      exact wo_ret hx hb hr hlocks dL_settle_20 hw hO hoo (Nat.le_of_ble_eq_true rfl) (Nat.le_of_ble_eq_true rfl) ⟨hC.symm, fun z => absurd (hC.symm.trans z) (by decide), fun _ => ⟨rfl, rfl⟩⟩
    · refine vx_catch (own := RL) hown [⟨0, 14, 17, 19⟩] ⟨0, 14, 21, 13⟩ [⟨0, 14, 25, 21⟩] (htab.trans rfl) (fun z hz => by rw [List.mem_singleton.mp hz]; exact Or.inr ⟨by decide, _, hts (.classLink RL 19 "java/lang/IndexOutOfBoundsException") (by decide +kernel), hN.2.1⟩) (by decide) (by decide) (hts (.classLink RL 13 "java/lang/IllegalArgumentException") (by decide +kernel)) (va_Nw.use rfl (hE.2.2.1 _ (by decide))) hcell hcv hcl ?_
      refine lv_astore (lv' := [(6, .ref q), (0, .ref ox), (1, .int p1), (2, .int p2), (3, .int p3), (4, .int (bI bb)), (5, .ref oo)]) hx hb dL_settle_21 hl (by decide) rfl (fun ls hl => ?_)
      refine lv_iconst (v := 2) hx hb dL_settle_23 (by decide) ?_
      exact wo_ret hx hb hr hlocks dL_settle_24 hw hO hoo (Nat.le_of_ble_eq_true rfl) (Nat.le_of_ble_eq_true rfl) ⟨hC.symm, fun z => absurd (hC.symm.trans z) (by decide), fun _ => ⟨rfl, rfl⟩⟩
    · refine vx_catch (own := RL) hown [⟨0, 14, 17, 19⟩, ⟨0, 14, 21, 13⟩] ⟨0, 14, 25, 21⟩ [] (htab.trans rfl) (fun z hz => by
          rcases List.mem_cons.mp hz with h | h
          · rw [h]; exact Or.inr ⟨by decide, _, hts (.classLink RL 19 "java/lang/IndexOutOfBoundsException") (by decide +kernel), hN.1⟩
          · rw [List.mem_singleton.mp h]; exact Or.inr ⟨by decide, _, hts (.classLink RL 13 "java/lang/IllegalArgumentException") (by decide +kernel), hN.2.2⟩) (by decide) (by decide) (hts (.classLink RL 21 "java/lang/IllegalStateException") (by decide +kernel)) (va_Nw.use rfl (hE.2.2.1 _ (by decide))) hcell hcv hcl ?_
      refine lv_astore (lv' := [(6, .ref q), (0, .ref ox), (1, .int p1), (2, .int p2), (3, .int p3), (4, .int (bI bb)), (5, .ref oo)]) hx hb dL_settle_25 hl (by decide) rfl (fun ls hl => ?_)
      refine lv_iconst (v := 3) hx hb dL_settle_27 (by decide) ?_
      exact wo_ret hx hb hr hlocks dL_settle_28 hw hO hoo (Nat.le_of_ble_eq_true rfl) (Nat.le_of_ble_eq_true rfl) ⟨hC.symm, fun z => absurd (hC.symm.trans z) (by decide), fun _ => ⟨rfl, rfl⟩⟩
  obtain ⟨hC, er, ra2, ar2, hS⟩ := hpost
  subst er
  refine lv_i2l (v := (rfv (rr (ix p1)) (ix p2) p3).toInt64) hx hb dL_settle_12 rfl ?_
  refine wo_last hx hb hK hw hO hooN hAo dL_settle_13 (fun H locs fo1 hfo hO hw => ?_)
  refine lv_goto (tgt := 29) hx hb dL_settle_14 (by decide) ?_
  refine lv_iconst (v := 0) hx hb dL_settle_29 (by decide) ?_
  exact wo_ret hx hb hr hlocks dL_settle_30 hw hO hooN (Nat.le_of_ble_eq_true rfl) (Nat.le_of_ble_eq_true rfl) ⟨hC.symm, fun _ => ⟨hfo, ra2, ar2, hS⟩, fun z => absurd hC z⟩
