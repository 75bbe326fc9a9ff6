theorem lg_cmp_self (x : Int64) : lg_cmp x x = 0 := by unfold lg_cmp; simp
theorem m_X2_thrown0 (l : Launch) {G : wy_G} {L : List Nat} {f : Nat → va_E} {om : Nat} {ma : Nat → Nat} {n : Nat} {km mn : Int32} {wk : Nat} {th : Int32} {g0 g1 g2 g3 g4 g5 g6 g7 g8 g9 : Nat → Int32} (hq : wm_S G L f om ma n km mn wk th g0 g1 g2 g3 g4 g5 g6 g7 g8 g9) : Met l yX2_thrown wsX2_thrown ({ frames := 0, cells := 0, slots := 0, locals := 0 } : Room) (va_Pc [.ref om] (wy_R G L f)) (vp_Si (fun z => z = th)) 0 0 (fun _ => False) := by
  refine Met.ofW (cc := cX2_thrown) (maxL := 1) (ret := (some .int)) (by decide) rfl ?_
  intro p e s m args below meth c s₁ B hml hv
  obtain ⟨rfl, hP, hK⟩ := hv
  have hx := B.exec
  have hb := B.bytes
  have hr := B.returns
  have hts := atoms_spec (ws := wsX2_thrown) B.pre
  have hown : s.vm.findClass RX2 = some m.cls := findClass_of_methodNamed B.named
  have hlocks := B.notSynchronized
  have hinX2 : ∀ w ∈ wsX20, w ∈ wsX2_thrown := by decide +kernel
  have hn : n ≤ 40 := hq.2.2.2.2.2.2.2.2.2.2.2.2.2.1
  have hwk : wk ≤ 20 := hq.2.2.2.2.2.2.2.2.2.2.2.2.2.2
  have hsN : ∀ v r, stN v r < 2 ^ 31 := fun v r => by unfold stN; split <;> (try split) <;> (try split) <;> decide
  have hdN : ∀ v r, dpN v r < 2 ^ 31 := fun v r => by unfold dpN; split <;> (try split) <;> (try split) <;> decide
  have hl := lv_entry ([.ref om]) (n := 1) (Nat.le_of_ble_eq_true rfl)
  rw [lg_entry_eq]
  generalize (lg_sl ([.ref om]) ++ List.replicate (1 - (lg_sl ([.ref om])).length) Slot.unset).toArray = ls at hl ⊢
  have hl : lv_has ls 1 [(0, .ref om)] := hl
  refine lv_aload_n hx hb dX2_thrown_0 rfl (lv_at hl 0 rfl) ?_
  refine wy_get (ci := 3) (v := .int th) (C := RX2) (T := TX2) (N := 15) hx hb hts hinX2 hown hK hP hq.1 rfl 14 (by decide) (hts (.fieldLink RX2 48 "WheelpayModel" "thrown" "I") (by decide +kernel)) (fun _ h9 => h9) rfl dX2_thrown_1 ?_
  exact wy_iR rfl hx hb hr hlocks dX2_thrown_4
set_option maxHeartbeats 4000000 in
set_option maxRecDepth 100000 in
theorem lw_book (l : Launch) {G : wy_G} {p : Program} {e : Env} {s : State} {m : MethodId} {below : List Frame} {meth : Method} {c : Code} {H : Heap} {locs : List Loc} {cells slots b N ox om oo od t i : Nat} {xs : Nat → Int32} {Q : State → Prop} {ls : Array Slot} {xi : Int32} (C0 : lwC G p l s m meth c b N xs) (hW : lwW G s ox om oo od t H locs) (hit : i = 5 * t) (hiN : i + 5 ≤ N) (hN : N ≤ 2560) (hl : lv_has ls 8 [(5, .int xi), (4, .ref od), (3, .ref oo), (2, .ref om), (1, .ref ox), (0, .ref b)]) (hxi : xi = nI i) (hc : cells ≤ 100 + 10 * t) (hsl : slots ≤ 6000 + 200 * t) (KK : ∀ (H1 : Heap) (locs1 : List Loc) (cells1 slots1 : Nat) (ls1 : Array Slot), lwW G s ox om oo od (t + 1) H1 locs1 → cells1 ≤ 100 + 10 * (t + 1) → slots1 ≤ 6000 + 200 * (t + 1) → lv_has ls1 8 [(5, .int xi), (4, .ref od), (3, .ref oo), (2, .ref om), (1, .ref ox), (0, .ref b)] → W p l e room_1 s m #[.ref b] below meth c H1 locs1 cells1 slots1 Q (F0 m 1636 ls1 [])) : W p l e room_1 s m #[.ref b] below meth c H locs cells slots Q (F0 m 264 ls []) := by
  obtain ⟨hx, hb, hml, hown, hts, hX, hbl, hK, hE, hZ, hNc, hnt⟩ := C0
  obtain ⟨L, f, Lm, fm, fo, fd, lo, ra, ar, ma, n, km, mn, wk, po, rr, th, g0, g1, g2, g3, g4, g5, g6, g7, g8, g9, hLw, hq, hm0, hmr, hI⟩ := hW
  have hA : ∀ q, s.heap.size ≤ q → lwA s q := fun q h => h
  have ht1 : t + 1 ≤ 512 := by omega
  refine lv_aload_n hx hb dL_law_264 rfl (lv_at hl 4 rfl) ?_
  refine lv_aload_n hx hb dL_law_265 rfl (lv_at hl 5 rfl) ?_
  refine lv_iload hx hb dL_law_266 (lv_at hl 0 rfl) ?_
  refine lv_iconst (v := 1) hx hb dL_law_268 (by decide) ?_
  refine lv_iadd hx hb dL_law_269 ?_
  refine lv_topi (fun x_1 ex_1 => ?_)
  have nx_1 : x_1 = nI (i + 1) := ex_1.trans ((congr (congrArg (fun u v : Int32 => u + v) hxi) (rfl : (1 : Int32) = nI 1)).trans (nI_add _ _))
  refine lw_sld (i := i) (k := 1) hx hb hX hbl hLw.1.2.2 nx_1 (by omega) hN dL_law_270 ?_
  refine lv_aload_n hx hb dL_law_271 rfl (lv_at hl 5 rfl) ?_
  refine lv_iload hx hb dL_law_272 (lv_at hl 0 rfl) ?_
  refine lv_iconst (v := 2) hx hb dL_law_274 (by decide) ?_
  refine lv_iadd hx hb dL_law_275 ?_
  refine lv_topi (fun x_2 ex_2 => ?_)
  have nx_2 : x_2 = nI (i + 2) := ex_2.trans ((congr (congrArg (fun u v : Int32 => u + v) hxi) (rfl : (2 : Int32) = nI 2)).trans (nI_add _ _))
  refine lw_sld (i := i) (k := 2) hx hb hX hbl hLw.1.2.2 nx_2 (by omega) hN dL_law_276 ?_
  refine lv_aload_n hx hb dL_law_277 rfl (lv_at hl 2 rfl) ?_
  refine wL_callO (vx_runSX (As := [.ref ox, .int (xs (i + 1)), .int (xs (i + 2)), .ref oo]) (rest := []) ⟨hx, hb, hml, hown, hts⟩ (m_L_book l hnt hq (xs (i + 1)) (xs (i + 2))) (vx_cwSW 4 hts gL_law_L_book rfl rfl rfl (by decide +kernel) ⟨Nat.le_of_ble_eq_true rfl, Nat.le_of_ble_eq_true rfl⟩) (wL_preO hK hE hZ hNc hLw hA) rfl rfl hl.1 rfl (lv_room (Nat.le_of_ble_eq_true rfl)) dL_law_278 ⟨(show cells + 4 ≤ 601024 by omega), (show slots + 24 ≤ 7293034 by omega)⟩) hLw hA (fun C1 L1 f1 fo1 H locs hp hLw1 => ?_)
  obtain ⟨rfl, hp0, hp1⟩ := hp
  refine lv_istore (lv' := [(6, .int (rdC n (xs (i + 1)) (xs (i + 2)) (bkB (rr (ix (xs (i + 1)))) (ix (xs (i + 2)))))), (5, .int xi), (4, .ref od), (3, .ref oo), (2, .ref om), (1, .ref ox), (0, .ref b)]) hx hb dL_law_281 hl (by decide) rfl (fun ls hl => ?_)
  refine lv_aload_n hx hb dL_law_283 rfl (lv_at hl 4 rfl) ?_
  refine lv_aload_n hx hb dL_law_284 rfl (lv_at hl 6 rfl) ?_
  refine lv_iload hx hb dL_law_285 (lv_at hl 1 rfl) ?_
  refine lv_iconst (v := 1) hx hb dL_law_287 (by decide) ?_
  refine lv_iadd hx hb dL_law_288 ?_
  refine lv_topi (fun x_3 ex_3 => ?_)
  have nx_3 : x_3 = nI (i + 1) := ex_3.trans ((congr (congrArg (fun u v : Int32 => u + v) hxi) (rfl : (1 : Int32) = nI 1)).trans (nI_add _ _))
  refine lw_sld (i := i) (k := 1) hx hb hX hbl hLw1.1.2.2 nx_3 (by omega) hN dL_law_289 ?_
  refine lv_aload_n hx hb dL_law_290 rfl (lv_at hl 6 rfl) ?_
  refine lv_iload hx hb dL_law_291 (lv_at hl 1 rfl) ?_
  refine lv_iconst (v := 2) hx hb dL_law_293 (by decide) ?_
  refine lv_iadd hx hb dL_law_294 ?_
  refine lv_topi (fun x_4 ex_4 => ?_)
  have nx_4 : x_4 = nI (i + 2) := ex_4.trans ((congr (congrArg (fun u v : Int32 => u + v) hxi) (rfl : (2 : Int32) = nI 2)).trans (nI_add _ _))
  refine lw_sld (i := i) (k := 2) hx hb hX hbl hLw1.1.2.2 nx_4 (by omega) hN dL_law_295 ?_
  refine wL_callM (va_runV (As := [.int (xs (i + 1)), .int (xs (i + 2))]) (rest := []) ⟨hx, hb, hml, hown, hts⟩ (m_X2_book l hm0 hmr hI.1 ht1 (xs (i + 1)) (xs (i + 2))) (cwV 2 hts gL_law_X2_book rfl rfl rfl (by decide +kernel) ⟨Nat.le_of_ble_eq_true rfl, Nat.le_of_ble_eq_true rfl⟩) (wy_pVW hK hLw1.2.1 hm0.1 rfl) rfl rfl hl.1 rfl (lv_room (Nat.le_of_ble_eq_true rfl)) dL_law_296 ⟨(show cells + 4 + 0 ≤ 601024 by omega), (show slots + 24 + 0 ≤ 7293034 by omega)⟩) hLw1 hA (fun r L9 f9 h9 => h9.2.1) (fun r1 fm1 H locs hpm hLw2 => ?_)
  obtain ⟨er, -, h0, h1, h2, h3, h4, h5, h6, h7, h8, h9, hm1, hmr1⟩ := hpm
  subst er
  refine lv_istore (lv' := [(7, .int (if (rdC n (xs (i + 1)) (xs (i + 2)) (bkB (rr (ix (xs (i + 1)))) (ix (xs (i + 2))))) = 0 then (freeR (vBook (rr (ix (xs (i + 1)))) (ix (xs (i + 2))))) else 0)), (6, .int (rdC n (xs (i + 1)) (xs (i + 2)) (bkB (rr (ix (xs (i + 1)))) (ix (xs (i + 2)))))), (5, .int xi), (4, .ref od), (3, .ref oo), (2, .ref om), (1, .ref ox), (0, .ref b)]) hx hb dL_law_299 hl (by decide) rfl (fun ls hl => ?_)
  refine lv_aload_n hx hb dL_law_301 rfl (lv_at hl 5 rfl) ?_
  refine vp_callSi (W.runV (As := []) (rest := []) ⟨hx, hb, hml, hown, hts⟩ (m_X2_thrown0 l hm1) (cwV 0 hts gL_law_X2_thrown rfl rfl rfl (by decide +kernel) ⟨Nat.le_of_ble_eq_true rfl, Nat.le_of_ble_eq_true rfl⟩) (wy_pVR hK hLw2.2.1.1 hm1.1 rfl) rfl rfl hl.1 rfl (lv_room (Nat.le_of_ble_eq_true rfl)) dL_law_302 ⟨(show cells + 4 + 0 + 0 ≤ 601024 by omega), (show slots + 24 + 0 + 0 ≤ 7293034 by omega)⟩) (fun r2 er2 => ?_)
  subst er2
  refine lv_iload hx hb dL_law_305 (lv_at hl 1 rfl) ?_
  refine lv_icmp_eq (tgt := 312) hx hb dL_law_307 (by decide) (fun _ => ?_) (fun z => absurd rfl z)
  refine lv_iload hx hb dL_law_312 (lv_at hl 1 rfl) ?_
  refine lv_if_ne (tgt := 329) hx hb dL_law_314 (by decide) (fun cT => ?_) (fun cT => ?_)
  · simp only [if_neg cT] at hm1 hmr1
    obtain ⟨rfl, rfl⟩ := hp1 cT
    refine lv_goto (tgt := 1636) hx hb dL_law_329 (by decide) ?_
    exact KK _ _ _ _ _ ⟨L1, f1, Lm, fm1, fo1, fd, lo, ra, ar, ma, n, km, mn, wk, po, rr, _, h0, h1, h2, h3, h4, h5, h6, h7, h8, h9, hLw2, hq, hm1, hmr1, hI.same⟩ (by omega) (by omega) (lv_sub hl [2, 3, 4, 5, 6, 7] rfl)
  · simp only [if_pos cT] at hm1 hmr1
    obtain ⟨hv, ra2, ar2, hS⟩ := hp0 cT
    refine lv_aload_n hx hb dL_law_317 rfl (lv_at hl 4 rfl) ?_
    refine lv_iconst (v := 0) hx hb dL_law_318 (by decide) ?_
    refine lw_lald hx hb hK hLw2 dL_law_319 ?_
    rw [hv]
    refine lv_iload hx hb dL_law_320 (lv_at hl 0 rfl) ?_
    refine lv_i2l (v := (if (rdC n (xs (i + 1)) (xs (i + 2)) (bkB (rr (ix (xs (i + 1)))) (ix (xs (i + 2))))) = 0 then (freeR (vBook (rr (ix (xs (i + 1)))) (ix (xs (i + 2))))) else 0).toInt64) hx hb dL_law_322 rfl ?_
    refine W.lcmp hx hb dL_law_323 ?_
    rw [if_pos cT, lg_cmp_self]
    refine lv_if_eq (tgt := 329) hx hb dL_law_324 (by decide) (fun _ => ?_) (fun z => absurd rfl z)
    refine lv_goto (tgt := 1636) hx hb dL_law_329 (by decide) ?_
    exact KK _ _ _ _ _ ⟨L1, f1, Lm, fm1, fo1, fd, lo, ra2, ar2, ma, _, _, _, _, _, _, _, h0, h1, h2, h3, h4, h5, h6, h7, h8, h9, hLw2, hS, hm1, hmr1, st_book hI cT⟩ (by omega) (by omega) (lv_sub hl [2, 3, 4, 5, 6, 7] rfl)
