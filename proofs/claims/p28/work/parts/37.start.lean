theorem wx_S.mono {G : wy_G} {L L' : List Nat} {f f' : Nat → va_E} {hx hl : Nat} {ra ar : Nat → Nat} {n : Nat} {km mn : Int32} {wk : Nat} {po : Nat → Int32} {R : Nat → wr_V} (h : wx_S G L f hx hl ra ar n km mn wk po R) (hL : ∀ z, z ∈ L → z ∈ L') (hf : ∀ z, z ∈ L → f' z = f z) : wx_S G L' f' hx hl ra ar n km mn wk po R := by
  obtain ⟨h1, ⟨md, he, cap, g, a1, a2, a3⟩, h3, h4, h5⟩ := h
  have key : ∀ a e, wy_c L f a e → wy_c L' f' a e := fun a e q => ⟨hL _ q.1, (hf _ q.1).trans q.2⟩
  exact ⟨key _ _ h1, ⟨md, he, cap, g, key _ _ a1, a2.imp id (key _ _), a3⟩, key _ _ h3, fun k hk => ⟨key _ _ (h4 k hk).1, key _ _ (h4 k hk).2.1, key _ _ (h4 k hk).2.2.1, (h4 k hk).2.2.2⟩, h5⟩
theorem wx_S.arL {G : wy_G} {L : List Nat} {f : Nat → va_E} {hx hl : Nat} {ra ar : Nat → Nat} {n : Nat} {km mn : Int32} {wk : Nat} {po : Nat → Int32} {R : Nat → wr_V} (h : wx_S G L f hx hl ra ar n km mn wk po R) : ∀ i, i < 2 * n + 1 → ar i ∈ L := by
  intro i hi
  rcases Nat.eq_zero_or_pos i with e | e
  · subst e; exact h.2.2.1.1
  · by_cases o : i % 2 = 1
    · have := (h.2.2.2.1 (i / 2) (by omega)).2.1.1
      rw [show 2 * (i / 2) + 1 = i by omega] at this; exact this
    · have := (h.2.2.2.1 (i / 2 - 1) (by omega)).2.2.1.1
      rw [show 2 * (i / 2 - 1) + 2 = i by omega] at this; exact this
theorem wx_S.push {G : wy_G} {L0 L L' : List Nat} {f0 f f' : Nat → va_E} {hx hl : Nat} {ra ar : Nat → Nat} {n : Nat} {km mn : Int32} {wk : Nat} {po : Nat → Int32} {R : Nat → wr_V} {ha ca da : Nat} {v : wr_V} (h0 : wx_S G L0 f0 hx hl ra ar n km mn wk po R) (hL : ∀ z, z ∈ L0 → z ∈ L) (hf : ∀ z, z ∈ L0 → f z = f0 z) (hn : n ≤ 39) (hha : ha ∉ L0) (hca : ca ∉ L0) (hda : da ∉ L0) (hro : wr_o G L f ha ca da v) (hmem : ∀ z, z ∈ L → z ∈ L') (hll : wx_l G L' f' hl (n + 1) (va_up ra n ha)) (hfr : ∀ z, z ∈ L → z ≠ hl → (∀ cap g, f z ≠ .inl (G.2 2, cap, .inr (.inr (.inr (.inr g))))) → f' z = f z) : wx_S G L' f' hx hl (va_up ra n ha) (va_up (va_up ar (2 * n + 1) ca) (2 * n + 2) da) (n + 1) km mn wk po (va_up R n v) := by
  have h := h0.mono hL hf
  have arL := h0.arL
  have hraL : ∀ k, k < n → ra k ∈ L0 := fun k hk => (h0.2.2.2.1 k hk).1.1
  obtain ⟨h1, ⟨md, he, cap, g, a1, -⟩, h3, h4, h5, h6, h7, h8⟩ := h
  have key : ∀ a e, wy_c L f a e → e ≠ f hl → (∀ cap g, e ≠ .inl (G.2 2, cap, .inr (.inr (.inr (.inr g))))) → wy_c L' f' a e := fun a e q n1 n2 => ⟨hmem _ q.1, (hfr a q.1 (fun z => n1 (by rw [← q.2, z])) (fun cap g z => n2 cap g (q.2.symm.trans z))).trans q.2⟩
  have hl2 := a1.2
  have ko : ∀ h c d v, wr_o G L f h c d v → wr_o G L' f' h c d v := fun h c d v q => ⟨key _ _ q.1 (by rw [hl2]; simp) (by simp), key _ _ q.2.1 (by rw [hl2]; simp) (by simp), key _ _ q.2.2.1 (by rw [hl2]; simp) (by simp), q.2.2.2⟩
  have ar0 : ∀ i, i < 2 * n + 1 → va_up (va_up ar (2 * n + 1) ca) (2 * n + 2) da i = ar i := fun i hi => by rw [va_up_ne _ _ (by omega), va_up_ne _ _ (by omega)]
  have ar1 : va_up (va_up ar (2 * n + 1) ca) (2 * n + 2) da (2 * n + 1) = ca := by rw [va_up_ne _ _ (by omega), va_up_self]
  have ar2 : va_up (va_up ar (2 * n + 1) ca) (2 * n + 2) da (2 * n + 2) = da := va_up_self _ _ _
  refine ⟨?_, hll, ?_, ?_, by omega, h6, ?_, ?_⟩
  · rw [ar0 0 (by omega)]; exact key _ _ h1 (by rw [hl2]; simp) (by simp)
  · rw [ar0 0 (by omega)]; exact key _ _ h3 (by rw [hl2]; simp) (by simp)
  · intro k hk
    by_cases e : k = n
    · subst e; rw [ar1, ar2, va_up_self, va_up_self]; exact ko _ _ _ _ hro
    · rw [va_up_ne _ _ e, va_up_ne _ _ e, ar0 _ (by omega), ar0 _ (by omega)]; exact ko _ _ _ _ (h4 k (by omega))
  · intro i j hi hj
    by_cases e1 : i = n <;> by_cases e2 : j = n
    · intro _; omega
    · subst e1; rw [va_up_self, va_up_ne _ _ e2]; intro z; exact absurd (z ▸ hraL j (by omega)) hha
    · subst e2; rw [va_up_self, va_up_ne _ _ e1]; intro z; exact absurd (z ▸ hraL i (by omega)) hha
    · rw [va_up_ne _ _ e1, va_up_ne _ _ e2]; exact h7 i j (by omega) (by omega)
  · have hcd : ca ≠ da := hro.2.2.2.2.2
    have cs : ∀ i, i < 2 * (n + 1) + 1 → i < 2 * n + 1 ∨ i = 2 * n + 1 ∨ i = 2 * n + 2 := fun i hi => by omega
    intro i j hi hj
    rcases cs i hi with a | a | a <;> rcases cs j hj with b | b | b
    · rw [ar0 i a, ar0 j b]; exact h8 i j a b
    · subst b; rw [ar0 i a, ar1]; intro z; exact absurd (z ▸ arL i a) hca
    · subst b; rw [ar0 i a, ar2]; intro z; exact absurd (z ▸ arL i a) hda
    · subst a; rw [ar0 j b, ar1]; intro z; exact absurd (z ▸ arL j b) hca
    · intro _; omega
    · subst a; subst b; rw [ar1, ar2]; intro z; exact absurd z hcd
    · subst a; rw [ar0 j b, ar2]; intro z; exact absurd (z ▸ arL j b) hda
    · subst a; subst b; rw [ar1, ar2]; intro z; exact absurd z.symm hcd
    · intro _; omega
/-- what start is given -/
def wt_Q (G : wy_G) (L : List Nat) (f : Nat → va_E) (sz : Nat) (U : State) : Prop := wt_P G L f sz U ∧ wl_E G (wy_A L sz) U
set_option maxHeartbeats 4000000 in
set_option maxRecDepth 100000 in
theorem m_X1_start (l : Launch) (hnt : l.stackTraces = false) {G : wy_G} {L : List Nat} {f : Nat → va_E} {sz : Nat} {ox lo : Nat} {ra ar : Nat → Nat} {n : Nat} {km mn : Int32} {wk : Nat} {po : Nat → Int32} {rr : Nat → wr_V} (hq : wx_S G L f ox lo ra ar n km mn wk po rr) (p1 : Int32) : vx_Met l yX1_start wsX1_start ({ frames := 7, cells := 5, slots := 100, locals := 171 } : Room) (va_Pc [.ref ox, .int p1] (wt_Q G L f sz)) (wy_Q G (wx_p G ox lo (n + 1) km mn wk po (va_up rr n (vNew p1 (nI wk))) (some (.int (nI n))) (stC rr n p1)) (wy_A L sz)) (wt_X G (px2 (stC rr n p1)) L f (wy_A L sz)) 5 100 (wy_A L sz) := by
  refine vx_ofW (cc := cX1_start) (maxL := 2) (ret := (some .int)) (by decide) rfl ?_
  intro p e s m args below meth c s₁ B hml htab hv
  obtain ⟨rfl, ⟨hv, hE⟩, hZ⟩ := hv
  obtain ⟨hw, hK, hA⟩ := wy_start hv
  have hsz := hv.1
  subst hsz
  have hx := B.exec
  have hb := B.bytes
  have hr := B.returns
  have hts := atoms_spec (ws := wsX1_start) B.pre
  have hown : s.vm.findClass RX1 = some m.cls := findClass_of_methodNamed B.named
  have hlocks := B.notSynchronized
  have hinX0 : ∀ w ∈ wsX00, w ∈ wsX1_start := by decide +kernel
  have hinX1 : ∀ w ∈ wsX10, w ∈ wsX1_start := by decide +kernel
  obtain ⟨md, he, cap, gg, hL1, -⟩ := id hq.2.1
  have hn : n ≤ 40 := hq.2.2.2.2.1
  have hwk : wk ≤ 20 := hq.2.2.2.2.2.1
  have hl := lv_entry ([.ref ox, .int p1]) (n := 2) (Nat.le_of_ble_eq_true rfl)
  rw [lg_entry_eq]
  generalize (lg_sl ([.ref ox, .int p1]) ++ List.replicate (2 - (lg_sl ([.ref ox, .int p1])).length) Slot.unset).toArray = ls at hl ⊢
  have hl : lv_has ls 2 [(0, .ref ox), (1, .int p1)] := hl
  refine lv_iload_n hx hb dX1_start_0 rfl (lv_at hl 1 rfl) ?_
  refine wt_call (fun E h => Or.inl ⟨h.1, by simp [stC, h.2]⟩) (vx_runS (As := [.int p1]) (rest := []) ⟨hx, hb, hml, hown, hts⟩ (m_X1_checkDriver l hnt (G := G) (L := L) (f := f) (p1)) (va_cwS 1 hts gX1_start_X1_checkDriver rfl rfl rfl (by decide +kernel) ⟨Nat.le_of_ble_eq_true rfl, Nat.le_of_ble_eq_true rfl⟩) (wt_pS hK hE hw hA) rfl rfl hl.1 rfl (lv_room (Nat.le_of_ble_eq_true rfl)) dX1_start_1 ⟨Nat.le_of_ble_eq_true rfl, Nat.le_of_ble_eq_true rfl⟩) hw hA htab hlocks (Nat.le_of_ble_eq_true rfl) (Nat.le_of_ble_eq_true rfl) (fun rw_1 Lw_1 fw_1 H locs hpost hw => ?_)
  obtain ⟨er_1, eL_1, ef_1, hok5⟩ := hpost
  subst er_1
  obtain rfl := eL_1.symm
  obtain rfl := ef_1.symm
  obtain ⟨hk5, e1⟩ := okN_ix hok5 (by omega)
  refine lv_aload_n hx hb dX1_start_4 rfl (lv_at hl 0 rfl) ?_
  refine wy_get (ci := 2) (v := .ref lo) (C := RX1) (T := TX1) (N := 5) hx hb hts hinX1 hown hK hw.1 hq.1 rfl 0 (by decide) (hts (.fieldLink RX1 10 "Wheelpay" "rides" "Ljava/util/ArrayList;") (by decide +kernel)) (fun _ h9 => h9) rfl dX1_start_5 ?_
  refine vp_callSi (W.runV (As := []) (rest := []) ⟨hx, hb, hml, hown, hts⟩ (m_Jx4a65c_size_8abf5 l hq.2.1) (cwV 0 hts gX1_start_Jx4a65c_size_8abf5 rfl rfl rfl (by decide +kernel) ⟨Nat.le_of_ble_eq_true rfl, Nat.le_of_ble_eq_true rfl⟩) (wy_pVR hK hw.1 hL1 rfl) rfl rfl hl.1 rfl (lv_room (Nat.le_of_ble_eq_true rfl)) dX1_start_8 ⟨Nat.le_of_ble_eq_true rfl, Nat.le_of_ble_eq_true rfl⟩) (fun r_2 er_2 => ?_)
  refine lv_bipush (v := 40) hx hb dX1_start_11 (by decide) ?_
  refine lv_icmp_lt (tgt := 26) hx hb dX1_start_13 (by decide) (fun c_3 => ?_) (fun c_3 => ?_)
  · have nc_3 : n < 40 := (wy_lt er_2 (rfl : (40 : Int32) = nI 40) (by omega) (by decide)).mp c_3
    have hn40 : ¬ n = 40 := by omega
    refine lv_aload_n hx hb dX1_start_26 rfl (lv_at hl 0 rfl) ?_
    refine lv_iload_n hx hb dX1_start_27 rfl (lv_at hl 1 rfl) ?_
    refine vp_callSi (W.runV (As := [.int p1]) (rest := []) ⟨hx, hb, hml, hown, hts⟩ (m_X1_isDriving l hq (p1)) (cwV 1 hts gX1_start_X1_isDriving rfl rfl rfl (by decide +kernel) ⟨Nat.le_of_ble_eq_true rfl, Nat.le_of_ble_eq_true rfl⟩) (wy_pVR hK hw.1 hq.1 rfl) rfl rfl hl.1 rfl (lv_room (Nat.le_of_ble_eq_true rfl)) dX1_start_28 ⟨Nat.le_of_ble_eq_true rfl, Nat.le_of_ble_eq_true rfl⟩) (fun r_4 er_4 => ?_)
    refine lv_if_eq (tgt := 44) hx hb dX1_start_31 (by decide) (fun c_5 => ?_) (fun c_5 => ?_)
    · have bc_5 : (drvS rr n p1) = false := bI_0 (er_4.symm.trans c_5)
      refine lv_aload_n hx hb dX1_start_44 rfl (lv_at hl 0 rfl) ?_
      refine wy_get (ci := 2) (v := .ref lo) (C := RX1) (T := TX1) (N := 5) hx hb hts hinX1 hown hK hw.1 hq.1 rfl 0 (by decide) (hts (.fieldLink RX1 10 "Wheelpay" "rides" "Ljava/util/ArrayList;") (by decide +kernel)) (fun _ h9 => h9) rfl dX1_start_45 ?_
      refine wy_new (ci := 1) (C := RX0) (T := TX0) (N := 11) hx hb hts hinX0 tyX0 tyX0_ok hown (hts (.classLink RX1 55 RX0) (by decide +kernel)) (hts (.instantiable RX0 11) (by decide +kernel)) (hts (.initialized RX0) (by decide +kernel)) hK hw hA rfl (fs := [.int 0, .int 0, .null, .null, .int 0, .int 0, .int 0, .int 0, .int 0, .int 0, .int 0]) (fun j hj => match j, hj with | 0, _ => rfl | 1, _ => rfl | 2, _ => rfl | 3, _ => rfl | 4, _ => rfl | 5, _ => rfl | 6, _ => rfl | 7, _ => rfl | 8, _ => rfl | 9, _ => rfl | 10, _ => rfl | (k + 11), h => absurd h (by omega)) (Nat.le_of_ble_eq_true rfl) (Nat.le_of_ble_eq_true rfl) dX1_start_48 (fun ha H fha hfrha hcha hnha hw => ?_)
      have hc_6 := wy_c.app2 hq.1 hfrha hnha
      have ne_ox_ha := wy_c.neq hq.1 hfrha
      have hc_7 := wy_c.app2 hL1 hfrha hnha
      have ne_lo_ha := wy_c.neq hL1 hfrha
      have hc_8 := wy_c.app2 hq.2.2.1 hfrha hnha
      have ne_ar_0_ha := wy_c.neq hq.2.2.1 hfrha
      refine lv_dup hx hb dX1_start_51 rfl ?_
      refine lv_iload_n hx hb dX1_start_52 rfl (lv_at hl 1 rfl) ?_
      refine lv_aload_n hx hb dX1_start_53 rfl (lv_at hl 0 rfl) ?_
      refine wy_get (ci := 2) (v := .int (nI wk)) (C := RX1) (T := TX1) (N := 5) hx hb hts hinX1 hown hK hw.1 hc_6 rfl 4 (by decide) (hts (.fieldLink RX1 27 "Wheelpay" "presentWeek" "I") (by decide +kernel)) (fun _ h9 => h9) rfl dX1_start_54 ?_
      refine wy_call (va_runI (As := [.int p1, .int (nI wk)]) (rest := [.ref ha, .ref lo]) ⟨hx, hb, hml, hown, hts⟩ (m_X0_init l hcha (p1) (nI wk)) (cwI 2 hts gX1_start_X0_init rfl rfl rfl (hts (.initialized RX0) (by decide +kernel)) (hts (.methodLink RX1 57 yX0_init) (by decide +kernel)) (hts (.instanceMethod yX0_init) (by decide +kernel)) rfl (by decide +kernel) ⟨Nat.le_of_ble_eq_true rfl, Nat.le_of_ble_eq_true rfl⟩) (wy_pSW hK hw) rfl rfl hl.1 rfl (lv_room (Nat.le_of_ble_eq_true rfl)) dX1_start_57 ⟨Nat.le_of_ble_eq_true rfl, Nat.le_of_ble_eq_true rfl⟩) hw hA (fun rw_9 Lw_9 fw_9 H locs hpost hw => ?_)
      obtain ⟨er_9, ca, da, eL, hca, hda, hro, hfrx⟩ := hpost
      subst er_9
      subst eL
      have hst : ∀ z, z ∈ L → fw_9 z = f z := fun z hz => (hfrx z (List.mem_append_left _ hz) (fun e => hfrha (e ▸ hz))).trans (hnha z (fun e => hfrha (e ▸ hz)))
      have hin : ∀ z, z ∈ L → z ∈ L ++ [ha] ++ [ca] ++ [da] := fun z hz => List.mem_append_left _ (List.mem_append_left _ (List.mem_append_left _ hz))
      have hq3 := hq.mono hin hst
      have hlo3 : wy_c (L ++ [ha] ++ [ca] ++ [da]) fw_9 lo (.inr (0, [.int md, .ref he, .int (nI n)])) := ⟨hin _ hL1.1, (hst _ hL1.1).trans hL1.2⟩
      refine wy_call (va_runV (As := [.ref ha]) (rest := []) ⟨hx, hb, hml, hown, hts⟩ (m_Jx4a65c_add_9ea2d l hq3.2.1 (by omega) (fun k hk => ⟨_, (hq3.2.2.2.1 k hk).1⟩) hro.1) (cwV 1 hts gX1_start_Jx4a65c_add_9ea2d rfl rfl rfl (by decide +kernel) ⟨Nat.le_of_ble_eq_true rfl, Nat.le_of_ble_eq_true rfl⟩) (wl_pV hK hZ hw hA hlo3 rfl) rfl rfl hl.1 rfl (lv_room (Nat.le_of_ble_eq_true rfl)) dX1_start_60 ⟨Nat.le_of_ble_eq_true rfl, Nat.le_of_ble_eq_true rfl⟩) hw hA (fun rw_10 Lw_10 fw_10 H locs hpost hw => ?_)
      obtain ⟨er, hmem, hll, hfra⟩ := hpost
      subst er
      have hq := hq.push hin hst (by omega) hfrha (fun z => hca (List.mem_append_left _ z)) (fun z => hda (List.mem_append_left _ z)) hro hmem hll hfra
      obtain ⟨md2, he2, cap2, gg2, hL12, -⟩ := id hq.2.1
      refine lv_pop hx hb dX1_start_63 rfl ?_
      refine lv_aload_n hx hb dX1_start_64 rfl (lv_at hl 0 rfl) ?_
      refine wy_get (ci := 2) (v := .ref lo) (C := RX1) (T := TX1) (N := 5) hx hb hts hinX1 hown hK hw.1 hq.1 rfl 0 (by decide) (hts (.fieldLink RX1 10 "Wheelpay" "rides" "Ljava/util/ArrayList;") (by decide +kernel)) (fun _ h9 => h9) rfl dX1_start_65 ?_
      refine vp_callSi (W.runV (As := []) (rest := []) ⟨hx, hb, hml, hown, hts⟩ (m_Jx4a65c_size_8abf5 l hq.2.1) (cwV 0 hts gX1_start_Jx4a65c_size_8abf5 rfl rfl rfl (by decide +kernel) ⟨Nat.le_of_ble_eq_true rfl, Nat.le_of_ble_eq_true rfl⟩) (wy_pVR hK hw.1 hL12 rfl) rfl rfl hl.1 rfl (lv_room (Nat.le_of_ble_eq_true rfl)) dX1_start_68 ⟨Nat.le_of_ble_eq_true rfl, Nat.le_of_ble_eq_true rfl⟩) (fun r_11 er_11 => ?_)
      refine lv_iconst (v := 1) hx hb dX1_start_71 (by decide) ?_
      refine lv_isub hx hb dX1_start_72 ?_
      refine lv_topi (fun x_12 ex_12 => ?_)
      exact vx_ret (wy_iW hx hb hr hlocks dX1_start_73 hw (Nat.le_of_ble_eq_true rfl) (Nat.le_of_ble_eq_true rfl) ⟨by simp [stC, hok5, bc_5, hn40], congrArg (fun z => some (Value.int z)) ((ex_12.trans (congrArg (fun z : Int32 => z - 1) er_11)).trans (nI_pred n)), _, _, hq⟩)
    · have bc_5 : (drvS rr n p1) = true := bI_1 (fun z => c_5 (er_4.trans z))
      exact wt_throw (is := 53) (text := "a ride of the driver is under way") wt_gdS wt_nbS (by decide) (by decide +kernel) hx hb hnt hown (by decide) (hts (.classLink RX1 42 "java/lang/IllegalStateException") (by decide +kernel)) (hts (.initialized "java/lang/IllegalStateException") (by decide +kernel)) (fun w h => hts w ((by decide +kernel : ∀ w ∈ (vx_atS RX1 46 "java/lang/IllegalStateException" wt_nm).filter goodWord, w ∈ wsX1_start) w h)) hE hw (by rw [hml]; exact hl.1) dX1_start_34 dX1_start_37 dX1_start_38 dX1_start_40 dX1_start_43 htab (Nat.le_of_ble_eq_true rfl) (Nat.le_of_ble_eq_true rfl) (Nat.le_of_ble_eq_true rfl) (Nat.le_of_ble_eq_true rfl) hlocks (Nat.le_of_ble_eq_true rfl) (Nat.le_of_ble_eq_true rfl) (Or.inr ⟨rfl, by simp [stC, hok5, bc_5, hn40]⟩)
  · have nc_3 : ¬ (n < 40) := fun z => c_3 ((wy_lt er_2 (rfl : (40 : Int32) = nI 40) (by omega) (by decide)).mpr z)
    have hn40 : n = 40 := by omega
    exact wt_throw (is := 44) (text := "there have been 40 rides") wt_gdS wt_nbS (by decide) (by decide +kernel) hx hb hnt hown (by decide) (hts (.classLink RX1 42 "java/lang/IllegalStateException") (by decide +kernel)) (hts (.initialized "java/lang/IllegalStateException") (by decide +kernel)) (fun w h => hts w ((by decide +kernel : ∀ w ∈ (vx_atS RX1 46 "java/lang/IllegalStateException" wt_nm).filter goodWord, w ∈ wsX1_start) w h)) hE hw (by rw [hml]; exact hl.1) dX1_start_16 dX1_start_19 dX1_start_20 dX1_start_22 dX1_start_25 htab (Nat.le_of_ble_eq_true rfl) (Nat.le_of_ble_eq_true rfl) (Nat.le_of_ble_eq_true rfl) (Nat.le_of_ble_eq_true rfl) hlocks (Nat.le_of_ble_eq_true rfl) (Nat.le_of_ble_eq_true rfl) (Or.inr ⟨rfl, by simp [stC, hok5, hn40]⟩)
