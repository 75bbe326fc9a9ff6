def wo_n (G : wy_G) (L : List Nat) (f : Nat → va_E) (ox lo n : Nat) (km mn : Int32) (wk : Nat) (po : Nat → Int32) (rr : Nat → wr_V) (C : Int32) : Int32 → List Nat → (Nat → va_E) → Int64 → Prop := fun C' L' f' _ => C' = C ∧ (C = 0 → ∃ ra ar, wx_S G L' f' ox lo ra ar n km mn wk po rr) ∧ (¬ C = 0 → L' = L ∧ f' = f)
def wd_p (G : wy_G) (L : List Nat) (f : Nat → va_E) (ox lo n : Nat) (km mn : Int32) (wk : Nat) (po : Nat → Int32) (rr : Nat → wr_V) (V : UInt64) (C : Int32) : Int32 → List Nat → (Nat → va_E) → UInt64 → Prop := fun C' L' f' v => C' = C ∧ (C = 0 → v = V ∧ ∃ ra ar, wx_S G L' f' ox lo ra ar n km mn wk po rr) ∧ (¬ C = 0 → L' = L ∧ f' = f)
theorem avC_0 {rr : Nat → wr_V} {n : Nat} {p : Int32} (h : avC rr n p = 0) : ¬ avcS rr n (ix p) = 0 := by
  intro z
  unfold avC at h
  rw [if_pos z] at h
  split at h <;> exact absurd h (by decide)
theorem avcS_le (rr : Nat → wr_V) (n r : Nat) : avcS rr n r ≤ n := cb_le _ _
set_option maxHeartbeats 4000000 in
set_option maxRecDepth 100000 in
theorem m_L_setRates (l : Launch) (hnt : l.stackTraces = false) {G : wy_G} {L : List Nat} {f : Nat → va_E} {sz oo : Nat} {ox lo : Nat} {ra ar : Nat → Nat} {n : Nat} {km mn : Int32} {wk : Nat} {po : Nat → Int32} {rr : Nat → wr_V} (hq : wx_S G L f ox lo ra ar n km mn wk po rr) (p1 p2 : Int32) : vx_Met l yL_setRates wsL_setRates ({ frames := 8, cells := 2, slots := 12, locals := 126 } : Room) (va_Pc [.ref ox, .int p1, .int p2] (wo_P G L f oo sz)) (wo_Q G L oo sz (wo_n G L f ox lo n p1 p2 wk po (rr) (srC p1 p2))) (fun _ _ _ => False) 2 12 (wy_A (L ++ [oo]) sz) := by
  refine vx_ofWH (cc := cL_setRates) (maxL := 4) (ret := (some .int)) (hh := [(0, 6, 9, 13)]) (by decide) rfl ?_
  intro p e s m args below meth c s₁ B hml hv
  obtain ⟨rfl, hP⟩ := hv
  obtain ⟨hw, hK, hA, hAo⟩ := wo_start hP
  obtain ⟨hv, hE, hZ, hN, hoo, hos, fo, hO⟩ := hP
  have hsz := hv.1
  subst hsz
  have hx := B.exec
  have hb := B.bytes
  have hr := B.returns
  have hts := atoms_spec (ws := wsL_setRates) B.pre
  have hown : s.vm.findClass RL = some m.cls := findClass_of_methodNamed B.named
  have hlocks := B.notSynchronized
  have htab := vx_table (x := yL_setRates) B (hts (.codeWith yL_setRates cL_setRates 4 (some .int) [(0, 6, 9, 13)]) List.mem_cons_self)
  have hl := lv_entry ([.ref ox, .int p1, .int p2]) (n := 4) (Nat.le_of_ble_eq_true rfl)
  rw [lg_entry_eq]
  generalize (lg_sl ([.ref ox, .int p1, .int p2]) ++ List.replicate (4 - (lg_sl ([.ref ox, .int p1, .int p2])).length) Slot.unset).toArray = ls at hl ⊢
  have hl : lv_has ls 4 [(0, .ref ox), (1, .int p1), (2, .int p2)] := hl
  refine lv_aload_n hx hb dL_setRates_0 rfl (lv_at hl 0 rfl) ?_
  refine lv_iload_n hx hb dL_setRates_1 rfl (lv_at hl 1 rfl) ?_
  refine lv_iload_n hx hb dL_setRates_2 rfl (lv_at hl 2 rfl) ?_
  refine wo_call (vx_runV (As := [.int p1, .int p2]) (rest := []) ⟨hx, hb, hml, hown, hts⟩ (m_X1_setRates l hnt hq (p1) (p2)) (cwV 2 hts gL_setRates_X1_setRates rfl rfl rfl (by decide +kernel) ⟨Nat.le_of_ble_eq_true rfl, Nat.le_of_ble_eq_true rfl⟩) (wt_pV hK hE hw hA hq.1 rfl) rfl rfl hl.1 rfl (lv_room (Nat.le_of_ble_eq_true rfl)) dL_setRates_3 ⟨Nat.le_of_ble_eq_true rfl, Nat.le_of_ble_eq_true rfl⟩) hw hA hoo hos hO (fun E ce q H locs hpE hw hO hcell hcv hcl => ?_) (fun rw_1 Lw_1 fw_1 H locs hpost hw hooN hO => ?_)
  · obtain ⟨rfl, hC⟩ := hpE
    refine vx_catch (own := RL) hown [] ⟨0, 6, 9, 13⟩ [] (htab.trans rfl) (fun z hz => absurd hz List.not_mem_nil) (by decide) (by decide) (hts (.classLink RL 13 "java/lang/IllegalArgumentException") (by decide +kernel)) (va_Nw.use rfl (hE.2.2.1 _ (by decide))) hcell hcv hcl ?_
    refine lv_astore_n (lv' := [(3, .ref q), (0, .ref ox), (1, .int p1), (2, .int p2)]) hx hb dL_setRates_9 rfl hl (by decide) rfl (fun ls hl => ?_)
    refine lv_iconst (v := 1) hx hb dL_setRates_10 (by decide) ?_
    exact wo_ret hx hb hr hlocks dL_setRates_11 hw hO hoo (Nat.le_of_ble_eq_true rfl) (Nat.le_of_ble_eq_true rfl) ⟨hC.symm, fun z => absurd (hC.symm.trans z) (by decide), fun _ => ⟨rfl, rfl⟩⟩
  obtain ⟨hC, er, ra2, ar2, hS⟩ := hpost
  subst er
  refine lv_goto (tgt := 12) hx hb dL_setRates_6 (by decide) ?_
  refine lv_iconst (v := 0) hx hb dL_setRates_12 (by decide) ?_
  exact wo_ret hx hb hr hlocks dL_setRates_13 hw hO hooN (Nat.le_of_ble_eq_true rfl) (Nat.le_of_ble_eq_true rfl) ⟨hC.symm, fun _ => ⟨ra2, ar2, hS⟩, fun z => absurd hC z⟩
set_option maxHeartbeats 4000000 in
set_option maxRecDepth 100000 in
theorem m_L_averageCharge (l : Launch) (hnt : l.stackTraces = false) {G : wy_G} {L : List Nat} {f : Nat → va_E} {sz oo : Nat} {ox lo : Nat} {ra ar : Nat → Nat} {n : Nat} {km mn : Int32} {wk : Nat} {po : Nat → Int32} {rr : Nat → wr_V} (hq : wx_S G L f ox lo ra ar n km mn wk po rr) (p1 : Int32) : vx_Met l yL_averageCharge wsL_averageCharge ({ frames := 8, cells := 2, slots := 12, locals := 127 } : Room) (va_Pc [.ref ox, .int p1, .ref oo] (wd_P G L f oo sz)) (wd_Q G L oo sz (wd_p G L f ox lo n km mn wk po (rr) (FP.f2d (mean (avsS rr n (ix p1)) (avcS rr n (ix p1)))) (avC rr n p1))) (fun _ _ _ => False) 2 12 (wy_A (L ++ [oo]) sz) := by
  refine vx_ofWH (cc := cL_averageCharge) (maxL := 4) (ret := (some .int)) (hh := [(0, 9, 12, 19), (0, 9, 15, 21)]) (by decide) rfl ?_
  intro p e s m args below meth c s₁ B hml hv
  obtain ⟨rfl, hP⟩ := hv
  obtain ⟨hw, hK, hA, hAo⟩ := wd_start hP
  obtain ⟨hv, hE, hZ, hN, hoo, hos, fo, hO⟩ := hP
  have hsz := hv.1
  subst hsz
  have hx := B.exec
  have hb := B.bytes
  have hr := B.returns
  have hts := atoms_spec (ws := wsL_averageCharge) B.pre
  have hown : s.vm.findClass RL = some m.cls := findClass_of_methodNamed B.named
  have hlocks := B.notSynchronized
  have htab := vx_table (x := yL_averageCharge) B (hts (.codeWith yL_averageCharge cL_averageCharge 4 (some .int) [(0, 9, 12, 19), (0, 9, 15, 21)]) List.mem_cons_self)
  have hl := lv_entry ([.ref ox, .int p1, .ref oo]) (n := 4) (Nat.le_of_ble_eq_true rfl)
  rw [lg_entry_eq]
  generalize (lg_sl ([.ref ox, .int p1, .ref oo]) ++ List.replicate (4 - (lg_sl ([.ref ox, .int p1, .ref oo])).length) Slot.unset).toArray = ls at hl ⊢
  have hl : lv_has ls 4 [(0, .ref ox), (1, .int p1), (2, .ref oo)] := hl
  refine lv_aload_n hx hb dL_averageCharge_0 rfl (lv_at hl 2 rfl) ?_
  refine lv_iconst (v := 0) hx hb dL_averageCharge_1 (by decide) ?_
  refine lv_aload_n hx hb dL_averageCharge_2 rfl (lv_at hl 0 rfl) ?_
  refine lv_iload_n hx hb dL_averageCharge_3 rfl (lv_at hl 1 rfl) ?_
  refine wd_call (vx_runV (As := [.int p1]) (rest := [.int 0, .ref oo]) ⟨hx, hb, hml, hown, hts⟩ (m_X1_averageCharge l hnt hq (p1)) (cwV 1 hts gL_averageCharge_X1_averageCharge rfl rfl rfl (by decide +kernel) ⟨Nat.le_of_ble_eq_true rfl, Nat.le_of_ble_eq_true rfl⟩) (wt_pV hK hE hw hA hq.1 rfl) rfl rfl hl.1 rfl (lv_room (Nat.le_of_ble_eq_true rfl)) dL_averageCharge_4 ⟨Nat.le_of_ble_eq_true rfl, Nat.le_of_ble_eq_true rfl⟩) hw hA hoo hos hO (fun E ce q H locs hpE hw hO hcell hcv hcl => ?_) (fun rw_1 Lw_1 fw_1 H locs hpost hw hooN hO => ?_)
  · rcases hpE with ⟨rfl, hC⟩ | ⟨rfl, hC⟩
    · refine vx_catch (own := RL) hown [] ⟨0, 9, 12, 19⟩ [⟨0, 9, 15, 21⟩] (htab.trans rfl) (fun z hz => absurd hz List.not_mem_nil) (by decide) (by decide) (hts (.classLink RL 19 "java/lang/IndexOutOfBoundsException") (by decide +kernel)) (va_Nw.use rfl (hE.2.2.1 _ (by decide))) hcell hcv hcl ?_
      refine lv_astore_n (lv' := [(3, .ref q), (0, .ref ox), (1, .int p1), (2, .ref oo)]) hx hb dL_averageCharge_12 rfl hl (by decide) rfl (fun ls hl => ?_)
      refine lv_iconst (v := 1) hx hb dL_averageCharge_13 (by decide) ?_
      exact wd_ret hx hb hr hlocks dL_averageCharge_14 hw hO hoo (Nat.le_of_ble_eq_true rfl) (Nat.le_of_ble_eq_true rfl) ⟨hC.symm, fun z => absurd (hC.symm.trans z) (by decide), fun _ => ⟨rfl, rfl⟩⟩
    · refine vx_catch (own := RL) hown [⟨0, 9, 12, 19⟩] ⟨0, 9, 15, 21⟩ [] (htab.trans rfl) (fun z hz => by rw [List.mem_singleton.mp hz]; exact Or.inr ⟨by decide, _, hts (.classLink RL 19 "java/lang/IndexOutOfBoundsException") (by decide +kernel), hN.1⟩) (by decide) (by decide) (hts (.classLink RL 21 "java/lang/IllegalStateException") (by decide +kernel)) (va_Nw.use rfl (hE.2.2.1 _ (by decide))) hcell hcv hcl ?_
      refine lv_astore_n (lv' := [(3, .ref q), (0, .ref ox), (1, .int p1), (2, .ref oo)]) hx hb dL_averageCharge_15 rfl hl (by decide) rfl (fun ls hl => ?_)
      refine lv_iconst (v := 2) hx hb dL_averageCharge_16 (by decide) ?_
      exact wd_ret hx hb hr hlocks dL_averageCharge_17 hw hO hoo (Nat.le_of_ble_eq_true rfl) (Nat.le_of_ble_eq_true rfl) ⟨hC.symm, fun z => absurd (hC.symm.trans z) (by decide), fun _ => ⟨rfl, rfl⟩⟩
  obtain ⟨hC, er, ra2, ar2, hS⟩ := hpost
  subst er
  refine lv_f2d hx hb dL_averageCharge_7 (mean_d _ (avC_0 hC) (Nat.le_trans (avcS_le _ _ _) hq.2.2.2.2.1)) ?_
  refine wd_last hx hb hK hw hO hooN hAo dL_averageCharge_8 (fun H locs fo1 hfo hO hw => ?_)
  refine lv_goto (tgt := 18) hx hb dL_averageCharge_9 (by decide) ?_
  refine lv_iconst (v := 0) hx hb dL_averageCharge_18 (by decide) ?_
  exact wd_ret hx hb hr hlocks dL_averageCharge_19 hw hO hooN (Nat.le_of_ble_eq_true rfl) (Nat.le_of_ble_eq_true rfl) ⟨hC.symm, fun _ => ⟨hfo, ra2, ar2, hS⟩, fun z => absurd hC z⟩
