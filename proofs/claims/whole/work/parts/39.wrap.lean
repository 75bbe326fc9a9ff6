def wo_p (G : wy_G) (L : List Nat) (f : Nat → va_E) (ox lo n : Nat) (km mn : Int32) (wk : Nat) (po : Nat → Int32) (rr : Nat → wr_V) (V : Int64) (C : Int32) : Int32 → List Nat → (Nat → va_E) → Int64 → Prop := fun C' L' f' v => C' = C ∧ (C = 0 → v = V ∧ ∃ ra ar, wx_S G L' f' ox lo ra ar n km mn wk po rr) ∧ (¬ C = 0 → L' = L ∧ f' = f)
theorem wo_pX {p : Program} {s : State} {H : Heap} {locs : List Loc} {A : Nat → Prop} {G : wy_G} {L : List Nat} {f : Nat → va_E} {a : Nat} {C : String} {T : u_T} {N ci : Nat} {fs As : List Value} (hK : wy_K G s) (hE : wt_E A s) (hZ : wl_E G A s) (hw : wy_H G L f A s.heap H locs) (hA : ∀ q, s.heap.size ≤ q → A q) (he : wy_c L f a (.inr (ci, fs))) (hc : vwCl[ci]? = some (C, T, N)) : PreV s H C a (va_Pc (.ref a :: As) (wt_Q G L f H.size)) As :=
  ⟨fun a U g mk q => by
    obtain ⟨q0, ⟨⟨q1, qP, qK, qD⟩, qE⟩, qZ⟩ := q
    exact ⟨q0, ⟨⟨q1, qP, wy_K.moved (u := U) (U := U.calling g mk a) (Vm.Alike.refl U.vm) qK, qD⟩, qE.calling⟩, qZ.calling⟩, wy_recv hK hw.1 he hc, fun U hU hW => ⟨rfl, ⟨wy_toW hK hw hU hW, hE.at hw.2.2 hU hW (hw.sub hA)⟩, hZ.at hw.2.2 hU hW (hw.sub hA)⟩⟩
set_option maxHeartbeats 4000000 in
set_option maxRecDepth 100000 in
theorem m_L_book (l : Launch) (hnt : l.stackTraces = false) {G : wy_G} {L : List Nat} {f : Nat → va_E} {sz oo : Nat} {ox lo : Nat} {ra ar : Nat → Nat} {n : Nat} {km mn : Int32} {wk : Nat} {po : Nat → Int32} {rr : Nat → wr_V} (hq : wx_S G L f ox lo ra ar n km mn wk po rr) (p1 p2 : Int32) : vx_Met l yL_book wsL_book ({ frames := 9, cells := 4, slots := 24, locals := 149 } : Room) (va_Pc [.ref ox, .int p1, .int p2, .ref oo] (wo_P G L f oo sz)) (wo_Q G L oo sz (wo_p G L f ox lo n km mn wk po (va_up rr (ix p1) (vBook (rr (ix p1)) (ix p2))) (((freeR (vBook (rr (ix p1)) (ix p2)))).toInt64) (rdC n p1 p2 (bkB (rr (ix p1)) (ix p2))))) (fun _ _ _ => False) 4 24 (wy_A (L ++ [oo]) sz) := by
  refine vx_ofWH (cc := cL_book) (maxL := 5) (ret := (some .int)) (hh := [(0, 10, 13, 19), (0, 10, 17, 21)]) (by decide) rfl ?_
  intro p e s m args below meth c s₁ B hml hv
  obtain ⟨rfl, hP⟩ := hv
  obtain ⟨hw, hK, hA, hAo⟩ := wo_start hP
  obtain ⟨hv, hE, hZ, hN, hoo, hos, fo, hO⟩ := hP
  have hsz := hv.1
  subst hsz
  have hx := B.exec
  have hb := B.bytes
  have hr := B.returns
  have hts := atoms_spec (ws := wsL_book) B.pre
  have hown : s.vm.findClass RL = some m.cls := findClass_of_methodNamed B.named
  have hlocks := B.notSynchronized
  have htab := vx_table (x := yL_book) B (hts (.codeWith yL_book cL_book 5 (some .int) [(0, 10, 13, 19), (0, 10, 17, 21)]) List.mem_cons_self)
  have hl := lv_entry ([.ref ox, .int p1, .int p2, .ref oo]) (n := 5) (Nat.le_of_ble_eq_true rfl)
  rw [lg_entry_eq]
  generalize (lg_sl ([.ref ox, .int p1, .int p2, .ref oo]) ++ List.replicate (5 - (lg_sl ([.ref ox, .int p1, .int p2, .ref oo])).length) Slot.unset).toArray = ls at hl ⊢
  have hl : lv_has ls 5 [(0, .ref ox), (1, .int p1), (2, .int p2), (3, .ref oo)] := hl
  refine lv_aload_n hx hb dL_book_0 rfl (lv_at hl 3 rfl) ?_
  refine lv_iconst (v := 0) hx hb dL_book_1 (by decide) ?_
  refine lv_aload_n hx hb dL_book_2 rfl (lv_at hl 0 rfl) ?_
  refine lv_iload_n hx hb dL_book_3 rfl (lv_at hl 1 rfl) ?_
  refine lv_iload_n hx hb dL_book_4 rfl (lv_at hl 2 rfl) ?_
  refine wo_call (vx_runV (As := [.int p1, .int p2]) (rest := [.int 0, .ref oo]) ⟨hx, hb, hml, hown, hts⟩ (m_X1_book l hnt hq (p1) (p2)) (cwV 2 hts gL_book_X1_book rfl rfl rfl (by decide +kernel) ⟨Nat.le_of_ble_eq_true rfl, Nat.le_of_ble_eq_true rfl⟩) (wt_pV hK hE hw hA hq.1 rfl) rfl rfl hl.1 rfl (lv_room (Nat.le_of_ble_eq_true rfl)) dL_book_5 ⟨Nat.le_of_ble_eq_true rfl, Nat.le_of_ble_eq_true rfl⟩) hw hA hoo hos hO (fun E ce q H locs hpE hw hO hcell hcv hcl => ?_) (fun rw_1 Lw_1 fw_1 H locs hpost hw hooN hO => ?_)
  · rcases hpE with ⟨rfl, hC⟩ | ⟨rfl, hC⟩
    · refine vx_catch (own := RL) hown [] ⟨0, 10, 13, 19⟩ [⟨0, 10, 17, 21⟩] (htab.trans rfl) (fun z hz => absurd hz List.not_mem_nil) (by decide) (by decide) (hts (.classLink RL 19 "java/lang/IndexOutOfBoundsException") (by decide +kernel)) (va_Nw.use rfl (hE.2.2.1 _ (by decide))) hcell hcv hcl ?_
      refine lv_astore (lv' := [(4, .ref q), (0, .ref ox), (1, .int p1), (2, .int p2), (3, .ref oo)]) hx hb dL_book_13 hl (by decide) rfl (fun ls hl => ?_)
      refine lv_iconst (v := 1) hx hb dL_book_15 (by decide) ?_
      exact wo_ret hx hb hr hlocks dL_book_16 hw hO hoo (Nat.le_of_ble_eq_true rfl) (Nat.le_of_ble_eq_true rfl) ⟨hC.symm, fun z => absurd (hC.symm.trans z) (by decide), fun _ => ⟨rfl, rfl⟩⟩
    · refine vx_catch (own := RL) hown [⟨0, 10, 13, 19⟩] ⟨0, 10, 17, 21⟩ [] (htab.trans rfl) (fun z hz => by rw [List.mem_singleton.mp hz]; exact Or.inr ⟨by decide, _, hts (.classLink RL 19 "java/lang/IndexOutOfBoundsException") (by decide +kernel), hN.1⟩) (by decide) (by decide) (hts (.classLink RL 21 "java/lang/IllegalStateException") (by decide +kernel)) (va_Nw.use rfl (hE.2.2.1 _ (by decide))) hcell hcv hcl ?_
      refine lv_astore (lv' := [(4, .ref q), (0, .ref ox), (1, .int p1), (2, .int p2), (3, .ref oo)]) hx hb dL_book_17 hl (by decide) rfl (fun ls hl => ?_)
      refine lv_iconst (v := 2) hx hb dL_book_19 (by decide) ?_
      exact wo_ret hx hb hr hlocks dL_book_20 hw hO hoo (Nat.le_of_ble_eq_true rfl) (Nat.le_of_ble_eq_true rfl) ⟨hC.symm, fun z => absurd (hC.symm.trans z) (by decide), fun _ => ⟨rfl, rfl⟩⟩
  obtain ⟨hC, er, ra2, ar2, hS⟩ := hpost
  subst er
  refine lv_i2l (v := (freeR (vBook (rr (ix p1)) (ix p2))).toInt64) hx hb dL_book_8 rfl ?_
  refine wo_last hx hb hK hw hO hooN hAo dL_book_9 (fun H locs fo1 hfo hO hw => ?_)
  refine lv_goto (tgt := 21) hx hb dL_book_10 (by decide) ?_
  refine lv_iconst (v := 0) hx hb dL_book_21 (by decide) ?_
  exact wo_ret hx hb hr hlocks dL_book_22 hw hO hooN (Nat.le_of_ble_eq_true rfl) (Nat.le_of_ble_eq_true rfl) ⟨hC.symm, fun _ => ⟨hfo, ra2, ar2, hS⟩, fun z => absurd hC z⟩
