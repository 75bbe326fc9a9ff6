theorem lg_cmp_self (x : Int64) : lg_cmp x x = 0 := by unfold lg_cmp; simp
theorem m_X2_thrown0 (l : Launch) {G : wy_G} {L : List Nat} {f : Nat → va_E} {om : Nat} {ma : Nat → Nat} {n : Nat} {km mn : Int32} {wk : Nat} {th : Int32} {g0 g1 g2 g3 g4 g5 g6 g7 g8 g9 : Nat → Int32} (hq : wm_S G L f om ma n km mn wk th g0 g1 g2 g3 g4 g5 g6 g7 g8 g9) : Met l yX2_thrown wsX2_thrown ({ frames := 0, cells := 0, slots := 0, locals := 0 } : Room) (va_Pc [.ref om] (wy_R G L f)) (vp_Si (fun z => z = th)) 0 0 (fun _ => False) := by
  refine Met.ofW (cc := cX2_thrown) (maxL := 1) (ret := (some .int)) (by decide) rfl ?_
  intro p e s m args below meth c s₁ B hml hv
  obtain ⟨rfl, hP, hK⟩ := hv
  have hx := B.exec
  have hb := B.bytes
  have hr := B.returns
  have hts := atoms_spec (ws := wsX2_thrown) B.pre
  have hown : s.vm.findClass RX2 = some m.cls := findClass_of_methodNamed B.named
  have hlocks := B.notSynchronized
  have hinX2 : ∀ w ∈ wsX20, w ∈ wsX2_thrown := by decide +kernel
  have hn : n ≤ 40 := hq.2.2.2.2.2.2.2.2.2.2.2.2.2.1
  have hwk : wk ≤ 20 := hq.2.2.2.2.2.2.2.2.2.2.2.2.2.2
  have hsN : ∀ v r, stN v r < 2 ^ 31 := fun v r => by unfold stN; split <;> (try split) <;> (try split) <;> decide
  have hdN : ∀ v r, dpN v r < 2 ^ 31 := fun v r => by unfold dpN; split <;> (try split) <;> (try split) <;> decide
  have hl := lv_entry ([.ref om]) (n := 1) (Nat.le_of_ble_eq_true rfl)
  rw [lg_entry_eq]
  generalize (lg_sl ([.ref om]) ++ List.replicate (1 - (lg_sl ([.ref om])).length) Slot.unset).toArray = ls at hl ⊢
  have hl : lv_has ls 1 [(0, .ref om)] := hl
  refine lv_aload_n hx hb dX2_thrown_0 rfl (lv_at hl 0 rfl) ?_
  refine wy_get (ci := 3) (v := .int th) (C := RX2) (T := TX2) (N := 15) hx hb hts hinX2 hown hK hP hq.1 rfl 14 (by decide) (hts (.fieldLink RX2 48 "WheelpayModel" "thrown" "I") (by decide +kernel)) (fun _ h9 => h9) rfl dX2_thrown_1 ?_
  exact wy_iR rfl hx hb hr hlocks dX2_thrown_4
set_option maxHeartbeats 4000000 in
set_option maxRecDepth 100000 in
theorem lw_start (l : Launch) {G : wy_G} {p : Program} {e : Env} {s : State} {m : MethodId} {below : List Frame} {meth : Method} {c : Code} {H : Heap} {locs : List Loc} {cells slots b N ox om oo od t i : Nat} {xs : Nat → Int32} {Q : State → Prop} {ls : Array Slot} {xi : Int32} (C0 : lwC G p l s m meth c b N xs) (hW : lwW G s ox om oo od t H locs) (hit : i = 5 * t) (hiN : i + 5 ≤ N) (hN : N ≤ 2560) (hl : lv_has ls 8 [(5, .int xi), (4, .ref od), (3, .ref oo), (2, .ref om), (1, .ref ox), (0, .ref b)]) (hxi : xi = nI i) (hc : cells ≤ 100 + 10 * t) (hsl : slots ≤ 6000 + 200 * t) (KK : ∀ (H1 : Heap) (locs1 : List Loc) (cells1 slots1 : Nat) (ls1 : Array Slot), lwW G s ox om oo od (t + 1) H1 locs1 → cells1 ≤ 100 + 10 * (t + 1) → slots1 ≤ 6000 + 200 * (t + 1) → lv_has ls1 8 [(5, .int xi), (4, .ref od), (3, .ref oo), (2, .ref om), (1, .ref ox), (0, .ref b)] → W p l e room_1 s m #[.ref b] below meth c H1 locs1 cells1 slots1 Q (F0 m 1636 ls1 [])) : W p l e room_1 s m #[.ref b] below meth c H locs cells slots Q (F0 m 208 ls []) := by
  obtain ⟨hx, hb, hml, hown, hts, hX, hbl, hK, hE, hZ, hNc, hnt⟩ := C0
  obtain ⟨L, f, Lm, fm, fo, fd, lo, ra, ar, ma, n, km, mn, wk, po, rr, th, g0, g1, g2, g3, g4, g5, g6, g7, g8, g9, hLw, hq, hm0, hmr, hI⟩ := hW
  have hA : ∀ q, s.heap.size ≤ q → lwA s q := fun q h => h
  have ht1 : t + 1 ≤ 512 := by omega
  refine lv_aload_n hx hb dL_law_208 rfl (lv_at hl 4 rfl) ?_
  refine lv_aload_n hx hb dL_law_209 rfl (lv_at hl 5 rfl) ?_
  refine lv_iload hx hb dL_law_210 (lv_at hl 0 rfl) ?_
  refine lv_iconst (v := 1) hx hb dL_law_212 (by decide) ?_
  refine lv_iadd hx hb dL_law_213 ?_
  refine lv_topi (fun x_1 ex_1 => ?_)
  have nx_1 : x_1 = nI (i + 1) := ex_1.trans ((congr (congrArg (fun u v : Int32 => u + v) hxi) (rfl : (1 : Int32) = nI 1)).trans (nI_add _ _))
  refine lw_sld (i := i) (k := 1) hx hb hX hbl hLw.1.2.2 nx_1 (by omega) hN dL_law_214 ?_
  refine lv_aload_n hx hb dL_law_215 rfl (lv_at hl 2 rfl) ?_
  refine wL_callO (vx_runSX (As := [.ref ox, .int (xs (i + 1)), .ref oo]) (rest := []) ⟨hx, hb, hml, hown, hts⟩ (m_L_start l hnt hq (xs (i + 1))) (vx_cwSW 3 hts gL_law_L_start rfl rfl rfl (by decide +kernel) ⟨Nat.le_of_ble_eq_true rfl, Nat.le_of_ble_eq_true rfl⟩) (wL_preO hK hE hZ hNc hLw hA) rfl rfl hl.1 rfl (lv_room (Nat.le_of_ble_eq_true rfl)) dL_law_216 ⟨(show cells + 5 ≤ 601024 by omega), (show slots + 100 ≤ 7293034 by omega)⟩) hLw hA (fun C1 L1 f1 fo1 H locs hp hLw1 => ?_)
  obtain ⟨rfl, hp0, hp1⟩ := hp
  refine lv_istore (lv' := [(6, .int (stC rr n (xs (i + 1)))), (5, .int xi), (4, .ref od), (3, .ref oo), (2, .ref om), (1, .ref ox), (0, .ref b)]) hx hb dL_law_219 hl (by decide) rfl (fun ls hl => ?_)
  refine lv_aload_n hx hb dL_law_221 rfl (lv_at hl 4 rfl) ?_
  refine lv_aload_n hx hb dL_law_222 rfl (lv_at hl 6 rfl) ?_
  refine lv_iload hx hb dL_law_223 (lv_at hl 1 rfl) ?_
  refine lv_iconst (v := 1) hx hb dL_law_225 (by decide) ?_
  refine lv_iadd hx hb dL_law_226 ?_
  refine lv_topi (fun x_2 ex_2 => ?_)
  have nx_2 : x_2 = nI (i + 1) := ex_2.trans ((congr (congrArg (fun u v : Int32 => u + v) hxi) (rfl : (1 : Int32) = nI 1)).trans (nI_add _ _))
  refine lw_sld (i := i) (k := 1) hx hb hX hbl hLw1.1.2.2 nx_2 (by omega) hN dL_law_227 ?_
  refine wL_callM (va_runV (As := [.int (xs (i + 1))]) (rest := []) ⟨hx, hb, hml, hown, hts⟩ (m_X2_start l hm0 hmr hI.1 ht1 (xs (i + 1)) hI.2.1) (cwV 1 hts gL_law_X2_start rfl rfl rfl (by decide +kernel) ⟨Nat.le_of_ble_eq_true rfl, Nat.le_of_ble_eq_true rfl⟩) (wy_pVW hK hLw1.2.1 hm0.1 rfl) rfl rfl hl.1 rfl (lv_room (Nat.le_of_ble_eq_true rfl)) dL_law_228 ⟨(show cells + 5 + 0 ≤ 601024 by omega), (show slots + 100 + 0 ≤ 7293034 by omega)⟩) hLw1 hA (fun r L9 f9 h9 => h9.2.1) (fun r1 fm1 H locs hpm hLw2 => ?_)
  obtain ⟨er, -, h0, h1, h2, h3, h4, h5, h6, h7, h8, h9, hm1, hmr1⟩ := hpm
  subst er
  refine lv_istore (lv' := [(7, .int (if (stC rr n (xs (i + 1))) = 0 then (nI n) else 0)), (6, .int (stC rr n (xs (i + 1)))), (5, .int xi), (4, .ref od), (3, .ref oo), (2, .ref om), (1, .ref ox), (0, .ref b)]) hx hb dL_law_231 hl (by decide) rfl (fun ls hl => ?_)
  refine lv_aload_n hx hb dL_law_233 rfl (lv_at hl 5 rfl) ?_
  refine vp_callSi (W.runV (As := []) (rest := []) ⟨hx, hb, hml, hown, hts⟩ (m_X2_thrown0 l hm1) (cwV 0 hts gL_law_X2_thrown rfl rfl rfl (by decide +kernel) ⟨Nat.le_of_ble_eq_true rfl, Nat.le_of_ble_eq_true rfl⟩) (wy_pVR hK hLw2.2.1.1 hm1.1 rfl) rfl rfl hl.1 rfl (lv_room (Nat.le_of_ble_eq_true rfl)) dL_law_234 ⟨(show cells + 5 + 0 + 0 ≤ 601024 by omega), (show slots + 100 + 0 + 0 ≤ 7293034 by omega)⟩) (fun r2 er2 => ?_)
  subst er2
  refine lv_iload hx hb dL_law_237 (lv_at hl 1 rfl) ?_
  refine lv_icmp_eq (tgt := 244) hx hb dL_law_239 (by decide) (fun _ => ?_) (fun z => absurd rfl z)
  refine lv_iload hx hb dL_law_244 (lv_at hl 1 rfl) ?_
  refine lv_if_ne (tgt := 261) hx hb dL_law_246 (by decide) (fun cT => ?_) (fun cT => ?_)
  · simp only [if_neg cT] at hm1 hmr1
    obtain ⟨rfl, rfl⟩ := hp1 cT
    refine lv_goto (tgt := 1636) hx hb dL_law_261 (by decide) ?_
    exact KK _ _ _ _ _ ⟨L1, f1, Lm, fm1, fo1, fd, lo, ra, ar, ma, n, km, mn, wk, po, rr, _, h0, h1, h2, h3, h4, h5, h6, h7, h8, h9, hLw2, hq, hm1, hmr1, hI.same⟩ (by omega) (by omega) (lv_sub hl [2, 3, 4, 5, 6, 7] rfl)
  · simp only [if_pos cT] at hm1 hmr1
    obtain ⟨hv, ra2, ar2, hS⟩ := hp0 cT
    refine lv_aload_n hx hb dL_law_249 rfl (lv_at hl 4 rfl) ?_
    refine lv_iconst (v := 0) hx hb dL_law_250 (by decide) ?_
    refine lw_lald hx hb hK hLw2 dL_law_251 ?_
    rw [hv]
    refine lv_iload hx hb dL_law_252 (lv_at hl 0 rfl) ?_
    refine lv_i2l (v := (if (stC rr n (xs (i + 1))) = 0 then (nI n) else 0).toInt64) hx hb dL_law_254 rfl ?_
    refine W.lcmp hx hb dL_law_255 ?_
    rw [if_pos cT, lg_cmp_self]
    refine lv_if_eq (tgt := 261) hx hb dL_law_256 (by decide) (fun _ => ?_) (fun z => absurd rfl z)
    refine lv_goto (tgt := 1636) hx hb dL_law_261 (by decide) ?_
    exact KK _ _ _ _ _ ⟨L1, f1, Lm, fm1, fo1, fd, lo, ra2, ar2, ma, _, _, _, _, _, _, _, h0, h1, h2, h3, h4, h5, h6, h7, h8, h9, hLw2, hS, hm1, hmr1, st_start hI cT⟩ (by omega) (by omega) (lv_sub hl [2, 3, 4, 5, 6, 7] rfl)
set_option maxHeartbeats 4000000 in
set_option maxRecDepth 100000 in
theorem lw_book (l : Launch) {G : wy_G} {p : Program} {e : Env} {s : State} {m : MethodId} {below : List Frame} {meth : Method} {c : Code} {H : Heap} {locs : List Loc} {cells slots b N ox om oo od t i : Nat} {xs : Nat → Int32} {Q : State → Prop} {ls : Array Slot} {xi : Int32} (C0 : lwC G p l s m meth c b N xs) (hW : lwW G s ox om oo od t H locs) (hit : i = 5 * t) (hiN : i + 5 ≤ N) (hN : N ≤ 2560) (hl : lv_has ls 8 [(5, .int xi), (4, .ref od), (3, .ref oo), (2, .ref om), (1, .ref ox), (0, .ref b)]) (hxi : xi = nI i) (hc : cells ≤ 100 + 10 * t) (hsl : slots ≤ 6000 + 200 * t) (KK : ∀ (H1 : Heap) (locs1 : List Loc) (cells1 slots1 : Nat) (ls1 : Array Slot), lwW G s ox om oo od (t + 1) H1 locs1 → cells1 ≤ 100 + 10 * (t + 1) → slots1 ≤ 6000 + 200 * (t + 1) → lv_has ls1 8 [(5, .int xi), (4, .ref od), (3, .ref oo), (2, .ref om), (1, .ref ox), (0, .ref b)] → W p l e room_1 s m #[.ref b] below meth c H1 locs1 cells1 slots1 Q (F0 m 1636 ls1 [])) : W p l e room_1 s m #[.ref b] below meth c H locs cells slots Q (F0 m 264 ls []) := by
  obtain ⟨hx, hb, hml, hown, hts, hX, hbl, hK, hE, hZ, hNc, hnt⟩ := C0
  obtain ⟨L, f, Lm, fm, fo, fd, lo, ra, ar, ma, n, km, mn, wk, po, rr, th, g0, g1, g2, g3, g4, g5, g6, g7, g8, g9, hLw, hq, hm0, hmr, hI⟩ := hW
  have hA : ∀ q, s.heap.size ≤ q → lwA s q := fun q h => h
  have ht1 : t + 1 ≤ 512 := by omega
  refine lv_aload_n hx hb dL_law_264 rfl (lv_at hl 4 rfl) ?_
  refine lv_aload_n hx hb dL_law_265 rfl (lv_at hl 5 rfl) ?_
  refine lv_iload hx hb dL_law_266 (lv_at hl 0 rfl) ?_
  refine lv_iconst (v := 1) hx hb dL_law_268 (by decide) ?_
  refine lv_iadd hx hb dL_law_269 ?_
  refine lv_topi (fun x_1 ex_1 => ?_)
  have nx_1 : x_1 = nI (i + 1) := ex_1.trans ((congr (congrArg (fun u v : Int32 => u + v) hxi) (rfl : (1 : Int32) = nI 1)).trans (nI_add _ _))
  refine lw_sld (i := i) (k := 1) hx hb hX hbl hLw.1.2.2 nx_1 (by omega) hN dL_law_270 ?_
  refine lv_aload_n hx hb dL_law_271 rfl (lv_at hl 5 rfl) ?_
  refine lv_iload hx hb dL_law_272 (lv_at hl 0 rfl) ?_
  refine lv_iconst (v := 2) hx hb dL_law_274 (by decide) ?_
  refine lv_iadd hx hb dL_law_275 ?_
  refine lv_topi (fun x_2 ex_2 => ?_)
  have nx_2 : x_2 = nI (i + 2) := ex_2.trans ((congr (congrArg (fun u v : Int32 => u + v) hxi) (rfl : (2 : Int32) = nI 2)).trans (nI_add _ _))
  refine lw_sld (i := i) (k := 2) hx hb hX hbl hLw.1.2.2 nx_2 (by omega) hN dL_law_276 ?_
  refine lv_aload_n hx hb dL_law_277 rfl (lv_at hl 2 rfl) ?_
  refine wL_callO (vx_runSX (As := [.ref ox, .int (xs (i + 1)), .int (xs (i + 2)), .ref oo]) (rest := []) ⟨hx, hb, hml, hown, hts⟩ (m_L_book l hnt hq (xs (i + 1)) (xs (i + 2))) (vx_cwSW 4 hts gL_law_L_book rfl rfl rfl (by decide +kernel) ⟨Nat.le_of_ble_eq_true rfl, Nat.le_of_ble_eq_true rfl⟩) (wL_preO hK hE hZ hNc hLw hA) rfl rfl hl.1 rfl (lv_room (Nat.le_of_ble_eq_true rfl)) dL_law_278 ⟨(show cells + 4 ≤ 601024 by omega), (show slots + 24 ≤ 7293034 by omega)⟩) hLw hA (fun C1 L1 f1 fo1 H locs hp hLw1 => ?_)
  obtain ⟨rfl, hp0, hp1⟩ := hp
  refine lv_istore (lv' := [(6, .int (rdC n (xs (i + 1)) (xs (i + 2)) (bkB (rr (ix (xs (i + 1)))) (ix (xs (i + 2)))))), (5, .int xi), (4, .ref od), (3, .ref oo), (2, .ref om), (1, .ref ox), (0, .ref b)]) hx hb dL_law_281 hl (by decide) rfl (fun ls hl => ?_)
  refine lv_aload_n hx hb dL_law_283 rfl (lv_at hl 4 rfl) ?_
  refine lv_aload_n hx hb dL_law_284 rfl (lv_at hl 6 rfl) ?_
  refine lv_iload hx hb dL_law_285 (lv_at hl 1 rfl) ?_
  refine lv_iconst (v := 1) hx hb dL_law_287 (by decide) ?_
  refine lv_iadd hx hb dL_law_288 ?_
  refine lv_topi (fun x_3 ex_3 => ?_)
  have nx_3 : x_3 = nI (i + 1) := ex_3.trans ((congr (congrArg (fun u v : Int32 => u + v) hxi) (rfl : (1 : Int32) = nI 1)).trans (nI_add _ _))
  refine lw_sld (i := i) (k := 1) hx hb hX hbl hLw1.1.2.2 nx_3 (by omega) hN dL_law_289 ?_
  refine lv_aload_n hx hb dL_law_290 rfl (lv_at hl 6 rfl) ?_
  refine lv_iload hx hb dL_law_291 (lv_at hl 1 rfl) ?_
  refine lv_iconst (v := 2) hx hb dL_law_293 (by decide) ?_
  refine lv_iadd hx hb dL_law_294 ?_
  refine lv_topi (fun x_4 ex_4 => ?_)
  have nx_4 : x_4 = nI (i + 2) := ex_4.trans ((congr (congrArg (fun u v : Int32 => u + v) hxi) (rfl : (2 : Int32) = nI 2)).trans (nI_add _ _))
  refine lw_sld (i := i) (k := 2) hx hb hX hbl hLw1.1.2.2 nx_4 (by omega) hN dL_law_295 ?_
  refine wL_callM (va_runV (As := [.int (xs (i + 1)), .int (xs (i + 2))]) (rest := []) ⟨hx, hb, hml, hown, hts⟩ (m_X2_book l hm0 hmr hI.1 ht1 (xs (i + 1)) (xs (i + 2))) (cwV 2 hts gL_law_X2_book rfl rfl rfl (by decide +kernel) ⟨Nat.le_of_ble_eq_true rfl, Nat.le_of_ble_eq_true rfl⟩) (wy_pVW hK hLw1.2.1 hm0.1 rfl) rfl rfl hl.1 rfl (lv_room (Nat.le_of_ble_eq_true rfl)) dL_law_296 ⟨(show cells + 4 + 0 ≤ 601024 by omega), (show slots + 24 + 0 ≤ 7293034 by omega)⟩) hLw1 hA (fun r L9 f9 h9 => h9.2.1) (fun r1 fm1 H locs hpm hLw2 => ?_)
  obtain ⟨er, -, h0, h1, h2, h3, h4, h5, h6, h7, h8, h9, hm1, hmr1⟩ := hpm
  subst er
  refine lv_istore (lv' := [(7, .int (if (rdC n (xs (i + 1)) (xs (i + 2)) (bkB (rr (ix (xs (i + 1)))) (ix (xs (i + 2))))) = 0 then (freeR (vBook (rr (ix (xs (i + 1)))) (ix (xs (i + 2))))) else 0)), (6, .int (rdC n (xs (i + 1)) (xs (i + 2)) (bkB (rr (ix (xs (i + 1)))) (ix (xs (i + 2)))))), (5, .int xi), (4, .ref od), (3, .ref oo), (2, .ref om), (1, .ref ox), (0, .ref b)]) hx hb dL_law_299 hl (by decide) rfl (fun ls hl => ?_)
  refine lv_aload_n hx hb dL_law_301 rfl (lv_at hl 5 rfl) ?_
  refine vp_callSi (W.runV (As := []) (rest := []) ⟨hx, hb, hml, hown, hts⟩ (m_X2_thrown0 l hm1) (cwV 0 hts gL_law_X2_thrown rfl rfl rfl (by decide +kernel) ⟨Nat.le_of_ble_eq_true rfl, Nat.le_of_ble_eq_true rfl⟩) (wy_pVR hK hLw2.2.1.1 hm1.1 rfl) rfl rfl hl.1 rfl (lv_room (Nat.le_of_ble_eq_true rfl)) dL_law_302 ⟨(show cells + 4 + 0 + 0 ≤ 601024 by omega), (show slots + 24 + 0 + 0 ≤ 7293034 by omega)⟩) (fun r2 er2 => ?_)
  subst er2
  refine lv_iload hx hb dL_law_305 (lv_at hl 1 rfl) ?_
  refine lv_icmp_eq (tgt := 312) hx hb dL_law_307 (by decide) (fun _ => ?_) (fun z => absurd rfl z)
  refine lv_iload hx hb dL_law_312 (lv_at hl 1 rfl) ?_
  refine lv_if_ne (tgt := 329) hx hb dL_law_314 (by decide) (fun cT => ?_) (fun cT => ?_)
  · simp only [if_neg cT] at hm1 hmr1
    obtain ⟨rfl, rfl⟩ := hp1 cT
    refine lv_goto (tgt := 1636) hx hb dL_law_329 (by decide) ?_
    exact KK _ _ _ _ _ ⟨L1, f1, Lm, fm1, fo1, fd, lo, ra, ar, ma, n, km, mn, wk, po, rr, _, h0, h1, h2, h3, h4, h5, h6, h7, h8, h9, hLw2, hq, hm1, hmr1, hI.same⟩ (by omega) (by omega) (lv_sub hl [2, 3, 4, 5, 6, 7] rfl)
  · simp only [if_pos cT] at hm1 hmr1
    obtain ⟨hv, ra2, ar2, hS⟩ := hp0 cT
    refine lv_aload_n hx hb dL_law_317 rfl (lv_at hl 4 rfl) ?_
    refine lv_iconst (v := 0) hx hb dL_law_318 (by decide) ?_
    refine lw_lald hx hb hK hLw2 dL_law_319 ?_
    rw [hv]
    refine lv_iload hx hb dL_law_320 (lv_at hl 0 rfl) ?_
    refine lv_i2l (v := (if (rdC n (xs (i + 1)) (xs (i + 2)) (bkB (rr (ix (xs (i + 1)))) (ix (xs (i + 2))))) = 0 then (freeR (vBook (rr (ix (xs (i + 1)))) (ix (xs (i + 2))))) else 0).toInt64) hx hb dL_law_322 rfl ?_
    refine W.lcmp hx hb dL_law_323 ?_
    rw [if_pos cT, lg_cmp_self]
    refine lv_if_eq (tgt := 329) hx hb dL_law_324 (by decide) (fun _ => ?_) (fun z => absurd rfl z)
    refine lv_goto (tgt := 1636) hx hb dL_law_329 (by decide) ?_
    exact KK _ _ _ _ _ ⟨L1, f1, Lm, fm1, fo1, fd, lo, ra2, ar2, ma, _, _, _, _, _, _, _, h0, h1, h2, h3, h4, h5, h6, h7, h8, h9, hLw2, hS, hm1, hmr1, st_book hI cT⟩ (by omega) (by omega) (lv_sub hl [2, 3, 4, 5, 6, 7] rfl)
set_option maxHeartbeats 4000000 in
set_option maxRecDepth 100000 in
theorem lw_cancel (l : Launch) {G : wy_G} {p : Program} {e : Env} {s : State} {m : MethodId} {below : List Frame} {meth : Method} {c : Code} {H : Heap} {locs : List Loc} {cells slots b N ox om oo od t i : Nat} {xs : Nat → Int32} {Q : State → Prop} {ls : Array Slot} {xi : Int32} (C0 : lwC G p l s m meth c b N xs) (hW : lwW G s ox om oo od t H locs) (hit : i = 5 * t) (hiN : i + 5 ≤ N) (hN : N ≤ 2560) (hl : lv_has ls 8 [(5, .int xi), (4, .ref od), (3, .ref oo), (2, .ref om), (1, .ref ox), (0, .ref b)]) (hxi : xi = nI i) (hc : cells ≤ 100 + 10 * t) (hsl : slots ≤ 6000 + 200 * t) (KK : ∀ (H1 : Heap) (locs1 : List Loc) (cells1 slots1 : Nat) (ls1 : Array Slot), lwW G s ox om oo od (t + 1) H1 locs1 → cells1 ≤ 100 + 10 * (t + 1) → slots1 ≤ 6000 + 200 * (t + 1) → lv_has ls1 8 [(5, .int xi), (4, .ref od), (3, .ref oo), (2, .ref om), (1, .ref ox), (0, .ref b)] → W p l e room_1 s m #[.ref b] below meth c H1 locs1 cells1 slots1 Q (F0 m 1636 ls1 [])) : W p l e room_1 s m #[.ref b] below meth c H locs cells slots Q (F0 m 332 ls []) := by
  obtain ⟨hx, hb, hml, hown, hts, hX, hbl, hK, hE, hZ, hNc, hnt⟩ := C0
  obtain ⟨L, f, Lm, fm, fo, fd, lo, ra, ar, ma, n, km, mn, wk, po, rr, th, g0, g1, g2, g3, g4, g5, g6, g7, g8, g9, hLw, hq, hm0, hmr, hI⟩ := hW
  have hA : ∀ q, s.heap.size ≤ q → lwA s q := fun q h => h
  have ht1 : t + 1 ≤ 512 := by omega
  refine lv_aload_n hx hb dL_law_332 rfl (lv_at hl 4 rfl) ?_
  refine lv_aload_n hx hb dL_law_333 rfl (lv_at hl 5 rfl) ?_
  refine lv_iload hx hb dL_law_334 (lv_at hl 0 rfl) ?_
  refine lv_iconst (v := 1) hx hb dL_law_336 (by decide) ?_
  refine lv_iadd hx hb dL_law_337 ?_
  refine lv_topi (fun x_1 ex_1 => ?_)
  have nx_1 : x_1 = nI (i + 1) := ex_1.trans ((congr (congrArg (fun u v : Int32 => u + v) hxi) (rfl : (1 : Int32) = nI 1)).trans (nI_add _ _))
  refine lw_sld (i := i) (k := 1) hx hb hX hbl hLw.1.2.2 nx_1 (by omega) hN dL_law_338 ?_
  refine lv_aload_n hx hb dL_law_339 rfl (lv_at hl 5 rfl) ?_
  refine lv_iload hx hb dL_law_340 (lv_at hl 0 rfl) ?_
  refine lv_iconst (v := 2) hx hb dL_law_342 (by decide) ?_
  refine lv_iadd hx hb dL_law_343 ?_
  refine lv_topi (fun x_2 ex_2 => ?_)
  have nx_2 : x_2 = nI (i + 2) := ex_2.trans ((congr (congrArg (fun u v : Int32 => u + v) hxi) (rfl : (2 : Int32) = nI 2)).trans (nI_add _ _))
  refine lw_sld (i := i) (k := 2) hx hb hX hbl hLw.1.2.2 nx_2 (by omega) hN dL_law_344 ?_
  refine lv_aload_n hx hb dL_law_345 rfl (lv_at hl 2 rfl) ?_
  refine wL_callO (vx_runSX (As := [.ref ox, .int (xs (i + 1)), .int (xs (i + 2)), .ref oo]) (rest := []) ⟨hx, hb, hml, hown, hts⟩ (m_L_cancel l hnt hq (xs (i + 1)) (xs (i + 2))) (vx_cwSW 4 hts gL_law_L_cancel rfl rfl rfl (by decide +kernel) ⟨Nat.le_of_ble_eq_true rfl, Nat.le_of_ble_eq_true rfl⟩) (wL_preO hK hE hZ hNc hLw hA) rfl rfl hl.1 rfl (lv_room (Nat.le_of_ble_eq_true rfl)) dL_law_346 ⟨(show cells + 4 ≤ 601024 by omega), (show slots + 24 ≤ 7293034 by omega)⟩) hLw hA (fun C1 L1 f1 fo1 H locs hp hLw1 => ?_)
  obtain ⟨rfl, hp0, hp1⟩ := hp
  refine lv_istore (lv' := [(6, .int (rdC n (xs (i + 1)) (xs (i + 2)) (cnB (rr (ix (xs (i + 1)))) (ix (xs (i + 2)))))), (5, .int xi), (4, .ref od), (3, .ref oo), (2, .ref om), (1, .ref ox), (0, .ref b)]) hx hb dL_law_349 hl (by decide) rfl (fun ls hl => ?_)
  refine lv_aload_n hx hb dL_law_351 rfl (lv_at hl 4 rfl) ?_
  refine lv_aload_n hx hb dL_law_352 rfl (lv_at hl 6 rfl) ?_
  refine lv_iload hx hb dL_law_353 (lv_at hl 1 rfl) ?_
  refine lv_iconst (v := 1) hx hb dL_law_355 (by decide) ?_
  refine lv_iadd hx hb dL_law_356 ?_
  refine lv_topi (fun x_3 ex_3 => ?_)
  have nx_3 : x_3 = nI (i + 1) := ex_3.trans ((congr (congrArg (fun u v : Int32 => u + v) hxi) (rfl : (1 : Int32) = nI 1)).trans (nI_add _ _))
  refine lw_sld (i := i) (k := 1) hx hb hX hbl hLw1.1.2.2 nx_3 (by omega) hN dL_law_357 ?_
  refine lv_aload_n hx hb dL_law_358 rfl (lv_at hl 6 rfl) ?_
  refine lv_iload hx hb dL_law_359 (lv_at hl 1 rfl) ?_
  refine lv_iconst (v := 2) hx hb dL_law_361 (by decide) ?_
  refine lv_iadd hx hb dL_law_362 ?_
  refine lv_topi (fun x_4 ex_4 => ?_)
  have nx_4 : x_4 = nI (i + 2) := ex_4.trans ((congr (congrArg (fun u v : Int32 => u + v) hxi) (rfl : (2 : Int32) = nI 2)).trans (nI_add _ _))
  refine lw_sld (i := i) (k := 2) hx hb hX hbl hLw1.1.2.2 nx_4 (by omega) hN dL_law_363 ?_
  refine wL_callM (va_runV (As := [.int (xs (i + 1)), .int (xs (i + 2))]) (rest := []) ⟨hx, hb, hml, hown, hts⟩ (m_X2_cancel l hm0 hmr hI.1 ht1 (xs (i + 1)) (xs (i + 2))) (cwV 2 hts gL_law_X2_cancel rfl rfl rfl (by decide +kernel) ⟨Nat.le_of_ble_eq_true rfl, Nat.le_of_ble_eq_true rfl⟩) (wy_pVW hK hLw1.2.1 hm0.1 rfl) rfl rfl hl.1 rfl (lv_room (Nat.le_of_ble_eq_true rfl)) dL_law_364 ⟨(show cells + 4 + 0 ≤ 601024 by omega), (show slots + 24 + 0 ≤ 7293034 by omega)⟩) hLw1 hA (fun r L9 f9 h9 => h9.2.1) (fun r1 fm1 H locs hpm hLw2 => ?_)
  obtain ⟨er, -, h0, h1, h2, h3, h4, h5, h6, h7, h8, h9, hm1, hmr1⟩ := hpm
  subst er
  refine lv_istore (lv' := [(7, .int (if (rdC n (xs (i + 1)) (xs (i + 2)) (cnB (rr (ix (xs (i + 1)))) (ix (xs (i + 2))))) = 0 then (feeR (rr (ix (xs (i + 1))))) else 0)), (6, .int (rdC n (xs (i + 1)) (xs (i + 2)) (cnB (rr (ix (xs (i + 1)))) (ix (xs (i + 2)))))), (5, .int xi), (4, .ref od), (3, .ref oo), (2, .ref om), (1, .ref ox), (0, .ref b)]) hx hb dL_law_367 hl (by decide) rfl (fun ls hl => ?_)
  refine lv_aload_n hx hb dL_law_369 rfl (lv_at hl 5 rfl) ?_
  refine vp_callSi (W.runV (As := []) (rest := []) ⟨hx, hb, hml, hown, hts⟩ (m_X2_thrown0 l hm1) (cwV 0 hts gL_law_X2_thrown rfl rfl rfl (by decide +kernel) ⟨Nat.le_of_ble_eq_true rfl, Nat.le_of_ble_eq_true rfl⟩) (wy_pVR hK hLw2.2.1.1 hm1.1 rfl) rfl rfl hl.1 rfl (lv_room (Nat.le_of_ble_eq_true rfl)) dL_law_370 ⟨(show cells + 4 + 0 + 0 ≤ 601024 by omega), (show slots + 24 + 0 + 0 ≤ 7293034 by omega)⟩) (fun r2 er2 => ?_)
  subst er2
  refine lv_iload hx hb dL_law_373 (lv_at hl 1 rfl) ?_
  refine lv_icmp_eq (tgt := 380) hx hb dL_law_375 (by decide) (fun _ => ?_) (fun z => absurd rfl z)
  refine lv_iload hx hb dL_law_380 (lv_at hl 1 rfl) ?_
  refine lv_if_ne (tgt := 397) hx hb dL_law_382 (by decide) (fun cT => ?_) (fun cT => ?_)
  · simp only [if_neg cT] at hm1 hmr1
    obtain ⟨rfl, rfl⟩ := hp1 cT
    refine lv_goto (tgt := 1636) hx hb dL_law_397 (by decide) ?_
    exact KK _ _ _ _ _ ⟨L1, f1, Lm, fm1, fo1, fd, lo, ra, ar, ma, n, km, mn, wk, po, rr, _, h0, h1, h2, h3, h4, h5, h6, h7, h8, h9, hLw2, hq, hm1, hmr1, hI.same⟩ (by omega) (by omega) (lv_sub hl [2, 3, 4, 5, 6, 7] rfl)
  · simp only [if_pos cT] at hm1 hmr1
    obtain ⟨hv, ra2, ar2, hS⟩ := hp0 cT
    refine lv_aload_n hx hb dL_law_385 rfl (lv_at hl 4 rfl) ?_
    refine lv_iconst (v := 0) hx hb dL_law_386 (by decide) ?_
    refine lw_lald hx hb hK hLw2 dL_law_387 ?_
    rw [hv]
    refine lv_iload hx hb dL_law_388 (lv_at hl 0 rfl) ?_
    refine lv_i2l (v := (if (rdC n (xs (i + 1)) (xs (i + 2)) (cnB (rr (ix (xs (i + 1)))) (ix (xs (i + 2))))) = 0 then (feeR (rr (ix (xs (i + 1))))) else 0).toInt64) hx hb dL_law_390 rfl ?_
    refine W.lcmp hx hb dL_law_391 ?_
    rw [if_pos cT, lg_cmp_self]
    refine lv_if_eq (tgt := 397) hx hb dL_law_392 (by decide) (fun _ => ?_) (fun z => absurd rfl z)
    refine lv_goto (tgt := 1636) hx hb dL_law_397 (by decide) ?_
    exact KK _ _ _ _ _ ⟨L1, f1, Lm, fm1, fo1, fd, lo, ra2, ar2, ma, _, _, _, _, _, _, _, h0, h1, h2, h3, h4, h5, h6, h7, h8, h9, hLw2, hS, hm1, hmr1, st_cancel hI cT⟩ (by omega) (by omega) (lv_sub hl [2, 3, 4, 5, 6, 7] rfl)
set_option maxHeartbeats 4000000 in
set_option maxRecDepth 100000 in
theorem lw_board (l : Launch) {G : wy_G} {p : Program} {e : Env} {s : State} {m : MethodId} {below : List Frame} {meth : Method} {c : Code} {H : Heap} {locs : List Loc} {cells slots b N ox om oo od t i : Nat} {xs : Nat → Int32} {Q : State → Prop} {ls : Array Slot} {xi : Int32} (C0 : lwC G p l s m meth c b N xs) (hW : lwW G s ox om oo od t H locs) (hit : i = 5 * t) (hiN : i + 5 ≤ N) (hN : N ≤ 2560) (hl : lv_has ls 8 [(5, .int xi), (4, .ref od), (3, .ref oo), (2, .ref om), (1, .ref ox), (0, .ref b)]) (hxi : xi = nI i) (hc : cells ≤ 100 + 10 * t) (hsl : slots ≤ 6000 + 200 * t) (KK : ∀ (H1 : Heap) (locs1 : List Loc) (cells1 slots1 : Nat) (ls1 : Array Slot), lwW G s ox om oo od (t + 1) H1 locs1 → cells1 ≤ 100 + 10 * (t + 1) → slots1 ≤ 6000 + 200 * (t + 1) → lv_has ls1 8 [(5, .int xi), (4, .ref od), (3, .ref oo), (2, .ref om), (1, .ref ox), (0, .ref b)] → W p l e room_1 s m #[.ref b] below meth c H1 locs1 cells1 slots1 Q (F0 m 1636 ls1 [])) : W p l e room_1 s m #[.ref b] below meth c H locs cells slots Q (F0 m 400 ls []) := by
  obtain ⟨hx, hb, hml, hown, hts, hX, hbl, hK, hE, hZ, hNc, hnt⟩ := C0
  obtain ⟨L, f, Lm, fm, fo, fd, lo, ra, ar, ma, n, km, mn, wk, po, rr, th, g0, g1, g2, g3, g4, g5, g6, g7, g8, g9, hLw, hq, hm0, hmr, hI⟩ := hW
  have hA : ∀ q, s.heap.size ≤ q → lwA s q := fun q h => h
  have ht1 : t + 1 ≤ 512 := by omega
  refine lv_aload_n hx hb dL_law_400 rfl (lv_at hl 4 rfl) ?_
  refine lv_aload_n hx hb dL_law_401 rfl (lv_at hl 5 rfl) ?_
  refine lv_iload hx hb dL_law_402 (lv_at hl 0 rfl) ?_
  refine lv_iconst (v := 1) hx hb dL_law_404 (by decide) ?_
  refine lv_iadd hx hb dL_law_405 ?_
  refine lv_topi (fun x_1 ex_1 => ?_)
  have nx_1 : x_1 = nI (i + 1) := ex_1.trans ((congr (congrArg (fun u v : Int32 => u + v) hxi) (rfl : (1 : Int32) = nI 1)).trans (nI_add _ _))
  refine lw_sld (i := i) (k := 1) hx hb hX hbl hLw.1.2.2 nx_1 (by omega) hN dL_law_406 ?_
  refine lv_aload_n hx hb dL_law_407 rfl (lv_at hl 5 rfl) ?_
  refine lv_iload hx hb dL_law_408 (lv_at hl 0 rfl) ?_
  refine lv_iconst (v := 2) hx hb dL_law_410 (by decide) ?_
  refine lv_iadd hx hb dL_law_411 ?_
  refine lv_topi (fun x_2 ex_2 => ?_)
  have nx_2 : x_2 = nI (i + 2) := ex_2.trans ((congr (congrArg (fun u v : Int32 => u + v) hxi) (rfl : (2 : Int32) = nI 2)).trans (nI_add _ _))
  refine lw_sld (i := i) (k := 2) hx hb hX hbl hLw.1.2.2 nx_2 (by omega) hN dL_law_412 ?_
  refine lv_aload_n hx hb dL_law_413 rfl (lv_at hl 2 rfl) ?_
  refine wL_callO (vx_runSX (As := [.ref ox, .int (xs (i + 1)), .int (xs (i + 2)), .ref oo]) (rest := []) ⟨hx, hb, hml, hown, hts⟩ (m_L_board l hnt hq (xs (i + 1)) (xs (i + 2))) (vx_cwSW 4 hts gL_law_L_board rfl rfl rfl (by decide +kernel) ⟨Nat.le_of_ble_eq_true rfl, Nat.le_of_ble_eq_true rfl⟩) (wL_preO hK hE hZ hNc hLw hA) rfl rfl hl.1 rfl (lv_room (Nat.le_of_ble_eq_true rfl)) dL_law_414 ⟨(show cells + 4 ≤ 601024 by omega), (show slots + 24 ≤ 7293034 by omega)⟩) hLw hA (fun C1 L1 f1 fo1 H locs hp hLw1 => ?_)
  obtain ⟨rfl, hp0, hp1⟩ := hp
  refine lv_istore (lv' := [(6, .int (rdC n (xs (i + 1)) (xs (i + 2)) (bdB (rr (ix (xs (i + 1)))) (ix (xs (i + 2)))))), (5, .int xi), (4, .ref od), (3, .ref oo), (2, .ref om), (1, .ref ox), (0, .ref b)]) hx hb dL_law_417 hl (by decide) rfl (fun ls hl => ?_)
  refine lv_aload_n hx hb dL_law_419 rfl (lv_at hl 4 rfl) ?_
  refine lv_aload_n hx hb dL_law_420 rfl (lv_at hl 6 rfl) ?_
  refine lv_iload hx hb dL_law_421 (lv_at hl 1 rfl) ?_
  refine lv_iconst (v := 1) hx hb dL_law_423 (by decide) ?_
  refine lv_iadd hx hb dL_law_424 ?_
  refine lv_topi (fun x_3 ex_3 => ?_)
  have nx_3 : x_3 = nI (i + 1) := ex_3.trans ((congr (congrArg (fun u v : Int32 => u + v) hxi) (rfl : (1 : Int32) = nI 1)).trans (nI_add _ _))
  refine lw_sld (i := i) (k := 1) hx hb hX hbl hLw1.1.2.2 nx_3 (by omega) hN dL_law_425 ?_
  refine lv_aload_n hx hb dL_law_426 rfl (lv_at hl 6 rfl) ?_
  refine lv_iload hx hb dL_law_427 (lv_at hl 1 rfl) ?_
  refine lv_iconst (v := 2) hx hb dL_law_429 (by decide) ?_
  refine lv_iadd hx hb dL_law_430 ?_
  refine lv_topi (fun x_4 ex_4 => ?_)
  have nx_4 : x_4 = nI (i + 2) := ex_4.trans ((congr (congrArg (fun u v : Int32 => u + v) hxi) (rfl : (2 : Int32) = nI 2)).trans (nI_add _ _))
  refine lw_sld (i := i) (k := 2) hx hb hX hbl hLw1.1.2.2 nx_4 (by omega) hN dL_law_431 ?_
  refine wL_callM (va_runV (As := [.int (xs (i + 1)), .int (xs (i + 2))]) (rest := []) ⟨hx, hb, hml, hown, hts⟩ (m_X2_board l hm0 hmr hI.1 ht1 (xs (i + 1)) (xs (i + 2))) (cwV 2 hts gL_law_X2_board rfl rfl rfl (by decide +kernel) ⟨Nat.le_of_ble_eq_true rfl, Nat.le_of_ble_eq_true rfl⟩) (wy_pVW hK hLw1.2.1 hm0.1 rfl) rfl rfl hl.1 rfl (lv_room (Nat.le_of_ble_eq_true rfl)) dL_law_432 ⟨(show cells + 4 + 0 ≤ 601024 by omega), (show slots + 24 + 0 ≤ 7293034 by omega)⟩) hLw1 hA (fun r L9 f9 h9 => h9.2.1) (fun r1 fm1 H locs hpm hLw2 => ?_)
  obtain ⟨er, -, h0, h1, h2, h3, h4, h5, h6, h7, h8, h9, hm1, hmr1⟩ := hpm
  subst er
  refine lv_istore (lv' := [(7, .int (if (rdC n (xs (i + 1)) (xs (i + 2)) (bdB (rr (ix (xs (i + 1)))) (ix (xs (i + 2))))) = 0 then (nI (cb (va_up (rsd (rr (ix (xs (i + 1))))) (ix (xs (i + 2))) true) 10)) else 0)), (6, .int (rdC n (xs (i + 1)) (xs (i + 2)) (bdB (rr (ix (xs (i + 1)))) (ix (xs (i + 2)))))), (5, .int xi), (4, .ref od), (3, .ref oo), (2, .ref om), (1, .ref ox), (0, .ref b)]) hx hb dL_law_435 hl (by decide) rfl (fun ls hl => ?_)
  refine lv_aload_n hx hb dL_law_437 rfl (lv_at hl 5 rfl) ?_
  refine vp_callSi (W.runV (As := []) (rest := []) ⟨hx, hb, hml, hown, hts⟩ (m_X2_thrown0 l hm1) (cwV 0 hts gL_law_X2_thrown rfl rfl rfl (by decide +kernel) ⟨Nat.le_of_ble_eq_true rfl, Nat.le_of_ble_eq_true rfl⟩) (wy_pVR hK hLw2.2.1.1 hm1.1 rfl) rfl rfl hl.1 rfl (lv_room (Nat.le_of_ble_eq_true rfl)) dL_law_438 ⟨(show cells + 4 + 0 + 0 ≤ 601024 by omega), (show slots + 24 + 0 + 0 ≤ 7293034 by omega)⟩) (fun r2 er2 => ?_)
  subst er2
  refine lv_iload hx hb dL_law_441 (lv_at hl 1 rfl) ?_
  refine lv_icmp_eq (tgt := 448) hx hb dL_law_443 (by decide) (fun _ => ?_) (fun z => absurd rfl z)
  refine lv_iload hx hb dL_law_448 (lv_at hl 1 rfl) ?_
  refine lv_if_ne (tgt := 465) hx hb dL_law_450 (by decide) (fun cT => ?_) (fun cT => ?_)
  · simp only [if_neg cT] at hm1 hmr1
    obtain ⟨rfl, rfl⟩ := hp1 cT
    refine lv_goto (tgt := 1636) hx hb dL_law_465 (by decide) ?_
    exact KK _ _ _ _ _ ⟨L1, f1, Lm, fm1, fo1, fd, lo, ra, ar, ma, n, km, mn, wk, po, rr, _, h0, h1, h2, h3, h4, h5, h6, h7, h8, h9, hLw2, hq, hm1, hmr1, hI.same⟩ (by omega) (by omega) (lv_sub hl [2, 3, 4, 5, 6, 7] rfl)
  · simp only [if_pos cT] at hm1 hmr1
    obtain ⟨hv, ra2, ar2, hS⟩ := hp0 cT
    refine lv_aload_n hx hb dL_law_453 rfl (lv_at hl 4 rfl) ?_
    refine lv_iconst (v := 0) hx hb dL_law_454 (by decide) ?_
    refine lw_lald hx hb hK hLw2 dL_law_455 ?_
    rw [hv]
    refine lv_iload hx hb dL_law_456 (lv_at hl 0 rfl) ?_
    refine lv_i2l (v := (if (rdC n (xs (i + 1)) (xs (i + 2)) (bdB (rr (ix (xs (i + 1)))) (ix (xs (i + 2))))) = 0 then (nI (cb (va_up (rsd (rr (ix (xs (i + 1))))) (ix (xs (i + 2))) true) 10)) else 0).toInt64) hx hb dL_law_458 rfl ?_
    refine W.lcmp hx hb dL_law_459 ?_
    rw [if_pos cT, lg_cmp_self]
    refine lv_if_eq (tgt := 465) hx hb dL_law_460 (by decide) (fun _ => ?_) (fun z => absurd rfl z)
    refine lv_goto (tgt := 1636) hx hb dL_law_465 (by decide) ?_
    exact KK _ _ _ _ _ ⟨L1, f1, Lm, fm1, fo1, fd, lo, ra2, ar2, ma, _, _, _, _, _, _, _, h0, h1, h2, h3, h4, h5, h6, h7, h8, h9, hLw2, hS, hm1, hmr1, st_board hI cT⟩ (by omega) (by omega) (lv_sub hl [2, 3, 4, 5, 6, 7] rfl)
set_option maxHeartbeats 4000000 in
set_option maxRecDepth 100000 in
theorem lw_leave (l : Launch) {G : wy_G} {p : Program} {e : Env} {s : State} {m : MethodId} {below : List Frame} {meth : Method} {c : Code} {H : Heap} {locs : List Loc} {cells slots b N ox om oo od t i : Nat} {xs : Nat → Int32} {Q : State → Prop} {ls : Array Slot} {xi : Int32} (C0 : lwC G p l s m meth c b N xs) (hW : lwW G s ox om oo od t H locs) (hit : i = 5 * t) (hiN : i + 5 ≤ N) (hN : N ≤ 2560) (hl : lv_has ls 8 [(5, .int xi), (4, .ref od), (3, .ref oo), (2, .ref om), (1, .ref ox), (0, .ref b)]) (hxi : xi = nI i) (hc : cells ≤ 100 + 10 * t) (hsl : slots ≤ 6000 + 200 * t) (KK : ∀ (H1 : Heap) (locs1 : List Loc) (cells1 slots1 : Nat) (ls1 : Array Slot), lwW G s ox om oo od (t + 1) H1 locs1 → cells1 ≤ 100 + 10 * (t + 1) → slots1 ≤ 6000 + 200 * (t + 1) → lv_has ls1 8 [(5, .int xi), (4, .ref od), (3, .ref oo), (2, .ref om), (1, .ref ox), (0, .ref b)] → W p l e room_1 s m #[.ref b] below meth c H1 locs1 cells1 slots1 Q (F0 m 1636 ls1 [])) : W p l e room_1 s m #[.ref b] below meth c H locs cells slots Q (F0 m 468 ls []) := by
  obtain ⟨hx, hb, hml, hown, hts, hX, hbl, hK, hE, hZ, hNc, hnt⟩ := C0
  obtain ⟨L, f, Lm, fm, fo, fd, lo, ra, ar, ma, n, km, mn, wk, po, rr, th, g0, g1, g2, g3, g4, g5, g6, g7, g8, g9, hLw, hq, hm0, hmr, hI⟩ := hW
  have hA : ∀ q, s.heap.size ≤ q → lwA s q := fun q h => h
  have ht1 : t + 1 ≤ 512 := by omega
  refine lv_aload_n hx hb dL_law_468 rfl (lv_at hl 4 rfl) ?_
  refine lv_aload_n hx hb dL_law_469 rfl (lv_at hl 5 rfl) ?_
  refine lv_iload hx hb dL_law_470 (lv_at hl 0 rfl) ?_
  refine lv_iconst (v := 1) hx hb dL_law_472 (by decide) ?_
  refine lv_iadd hx hb dL_law_473 ?_
  refine lv_topi (fun x_1 ex_1 => ?_)
  have nx_1 : x_1 = nI (i + 1) := ex_1.trans ((congr (congrArg (fun u v : Int32 => u + v) hxi) (rfl : (1 : Int32) = nI 1)).trans (nI_add _ _))
  refine lw_sld (i := i) (k := 1) hx hb hX hbl hLw.1.2.2 nx_1 (by omega) hN dL_law_474 ?_
  refine lv_aload_n hx hb dL_law_475 rfl (lv_at hl 5 rfl) ?_
  refine lv_iload hx hb dL_law_476 (lv_at hl 0 rfl) ?_
  refine lv_iconst (v := 2) hx hb dL_law_478 (by decide) ?_
  refine lv_iadd hx hb dL_law_479 ?_
  refine lv_topi (fun x_2 ex_2 => ?_)
  have nx_2 : x_2 = nI (i + 2) := ex_2.trans ((congr (congrArg (fun u v : Int32 => u + v) hxi) (rfl : (2 : Int32) = nI 2)).trans (nI_add _ _))
  refine lw_sld (i := i) (k := 2) hx hb hX hbl hLw.1.2.2 nx_2 (by omega) hN dL_law_480 ?_
  refine lv_aload_n hx hb dL_law_481 rfl (lv_at hl 2 rfl) ?_
  refine wL_callO (vx_runSX (As := [.ref ox, .int (xs (i + 1)), .int (xs (i + 2)), .ref oo]) (rest := []) ⟨hx, hb, hml, hown, hts⟩ (m_L_leave l hnt hq (xs (i + 1)) (xs (i + 2))) (vx_cwSW 4 hts gL_law_L_leave rfl rfl rfl (by decide +kernel) ⟨Nat.le_of_ble_eq_true rfl, Nat.le_of_ble_eq_true rfl⟩) (wL_preO hK hE hZ hNc hLw hA) rfl rfl hl.1 rfl (lv_room (Nat.le_of_ble_eq_true rfl)) dL_law_482 ⟨(show cells + 4 ≤ 601024 by omega), (show slots + 24 ≤ 7293034 by omega)⟩) hLw hA (fun C1 L1 f1 fo1 H locs hp hLw1 => ?_)
  obtain ⟨rfl, hp0, hp1⟩ := hp
  refine lv_istore (lv' := [(6, .int (rdC n (xs (i + 1)) (xs (i + 2)) (lvB (rr (ix (xs (i + 1)))) (ix (xs (i + 2)))))), (5, .int xi), (4, .ref od), (3, .ref oo), (2, .ref om), (1, .ref ox), (0, .ref b)]) hx hb dL_law_485 hl (by decide) rfl (fun ls hl => ?_)
  refine lv_aload_n hx hb dL_law_487 rfl (lv_at hl 4 rfl) ?_
  refine lv_aload_n hx hb dL_law_488 rfl (lv_at hl 6 rfl) ?_
  refine lv_iload hx hb dL_law_489 (lv_at hl 1 rfl) ?_
  refine lv_iconst (v := 1) hx hb dL_law_491 (by decide) ?_
  refine lv_iadd hx hb dL_law_492 ?_
  refine lv_topi (fun x_3 ex_3 => ?_)
  have nx_3 : x_3 = nI (i + 1) := ex_3.trans ((congr (congrArg (fun u v : Int32 => u + v) hxi) (rfl : (1 : Int32) = nI 1)).trans (nI_add _ _))
  refine lw_sld (i := i) (k := 1) hx hb hX hbl hLw1.1.2.2 nx_3 (by omega) hN dL_law_493 ?_
  refine lv_aload_n hx hb dL_law_494 rfl (lv_at hl 6 rfl) ?_
  refine lv_iload hx hb dL_law_495 (lv_at hl 1 rfl) ?_
  refine lv_iconst (v := 2) hx hb dL_law_497 (by decide) ?_
  refine lv_iadd hx hb dL_law_498 ?_
  refine lv_topi (fun x_4 ex_4 => ?_)
  have nx_4 : x_4 = nI (i + 2) := ex_4.trans ((congr (congrArg (fun u v : Int32 => u + v) hxi) (rfl : (2 : Int32) = nI 2)).trans (nI_add _ _))
  refine lw_sld (i := i) (k := 2) hx hb hX hbl hLw1.1.2.2 nx_4 (by omega) hN dL_law_499 ?_
  refine wL_callM (va_runV (As := [.int (xs (i + 1)), .int (xs (i + 2))]) (rest := []) ⟨hx, hb, hml, hown, hts⟩ (m_X2_leave l hm0 hmr hI.1 ht1 (xs (i + 1)) (xs (i + 2))) (cwV 2 hts gL_law_X2_leave rfl rfl rfl (by decide +kernel) ⟨Nat.le_of_ble_eq_true rfl, Nat.le_of_ble_eq_true rfl⟩) (wy_pVW hK hLw1.2.1 hm0.1 rfl) rfl rfl hl.1 rfl (lv_room (Nat.le_of_ble_eq_true rfl)) dL_law_500 ⟨(show cells + 4 + 0 ≤ 601024 by omega), (show slots + 24 + 0 ≤ 7293034 by omega)⟩) hLw1 hA (fun r L9 f9 h9 => h9.2.1) (fun r1 fm1 H locs hpm hLw2 => ?_)
  obtain ⟨er, -, h0, h1, h2, h3, h4, h5, h6, h7, h8, h9, hm1, hmr1⟩ := hpm
  subst er
  refine lv_istore (lv' := [(7, .int (if (rdC n (xs (i + 1)) (xs (i + 2)) (lvB (rr (ix (xs (i + 1)))) (ix (xs (i + 2))))) = 0 then (rch (rr (ix (xs (i + 1)))) (ix (xs (i + 2)))) else 0)), (6, .int (rdC n (xs (i + 1)) (xs (i + 2)) (lvB (rr (ix (xs (i + 1)))) (ix (xs (i + 2)))))), (5, .int xi), (4, .ref od), (3, .ref oo), (2, .ref om), (1, .ref ox), (0, .ref b)]) hx hb dL_law_503 hl (by decide) rfl (fun ls hl => ?_)
  refine lv_aload_n hx hb dL_law_505 rfl (lv_at hl 5 rfl) ?_
  refine vp_callSi (W.runV (As := []) (rest := []) ⟨hx, hb, hml, hown, hts⟩ (m_X2_thrown0 l hm1) (cwV 0 hts gL_law_X2_thrown rfl rfl rfl (by decide +kernel) ⟨Nat.le_of_ble_eq_true rfl, Nat.le_of_ble_eq_true rfl⟩) (wy_pVR hK hLw2.2.1.1 hm1.1 rfl) rfl rfl hl.1 rfl (lv_room (Nat.le_of_ble_eq_true rfl)) dL_law_506 ⟨(show cells + 4 + 0 + 0 ≤ 601024 by omega), (show slots + 24 + 0 + 0 ≤ 7293034 by omega)⟩) (fun r2 er2 => ?_)
  subst er2
  refine lv_iload hx hb dL_law_509 (lv_at hl 1 rfl) ?_
  refine lv_icmp_eq (tgt := 516) hx hb dL_law_511 (by decide) (fun _ => ?_) (fun z => absurd rfl z)
  refine lv_iload hx hb dL_law_516 (lv_at hl 1 rfl) ?_
  refine lv_if_ne (tgt := 533) hx hb dL_law_518 (by decide) (fun cT => ?_) (fun cT => ?_)
  · simp only [if_neg cT] at hm1 hmr1
    obtain ⟨rfl, rfl⟩ := hp1 cT
    refine lv_goto (tgt := 1636) hx hb dL_law_533 (by decide) ?_
    exact KK _ _ _ _ _ ⟨L1, f1, Lm, fm1, fo1, fd, lo, ra, ar, ma, n, km, mn, wk, po, rr, _, h0, h1, h2, h3, h4, h5, h6, h7, h8, h9, hLw2, hq, hm1, hmr1, hI.same⟩ (by omega) (by omega) (lv_sub hl [2, 3, 4, 5, 6, 7] rfl)
  · simp only [if_pos cT] at hm1 hmr1
    obtain ⟨hv, ra2, ar2, hS⟩ := hp0 cT
    refine lv_aload_n hx hb dL_law_521 rfl (lv_at hl 4 rfl) ?_
    refine lv_iconst (v := 0) hx hb dL_law_522 (by decide) ?_
    refine lw_lald hx hb hK hLw2 dL_law_523 ?_
    rw [hv]
    refine lv_iload hx hb dL_law_524 (lv_at hl 0 rfl) ?_
    refine lv_i2l (v := (if (rdC n (xs (i + 1)) (xs (i + 2)) (lvB (rr (ix (xs (i + 1)))) (ix (xs (i + 2))))) = 0 then (rch (rr (ix (xs (i + 1)))) (ix (xs (i + 2)))) else 0).toInt64) hx hb dL_law_526 rfl ?_
    refine W.lcmp hx hb dL_law_527 ?_
    rw [if_pos cT, lg_cmp_self]
    refine lv_if_eq (tgt := 533) hx hb dL_law_528 (by decide) (fun _ => ?_) (fun z => absurd rfl z)
    refine lv_goto (tgt := 1636) hx hb dL_law_533 (by decide) ?_
    exact KK _ _ _ _ _ ⟨L1, f1, Lm, fm1, fo1, fd, lo, ra2, ar2, ma, _, _, _, _, _, _, _, h0, h1, h2, h3, h4, h5, h6, h7, h8, h9, hLw2, hS, hm1, hmr1, st_leave hI cT⟩ (by omega) (by omega) (lv_sub hl [2, 3, 4, 5, 6, 7] rfl)
set_option maxHeartbeats 4000000 in
set_option maxRecDepth 100000 in
theorem lw_drive (l : Launch) {G : wy_G} {p : Program} {e : Env} {s : State} {m : MethodId} {below : List Frame} {meth : Method} {c : Code} {H : Heap} {locs : List Loc} {cells slots b N ox om oo od t i : Nat} {xs : Nat → Int32} {Q : State → Prop} {ls : Array Slot} {xi : Int32} (C0 : lwC G p l s m meth c b N xs) (hW : lwW G s ox om oo od t H locs) (hit : i = 5 * t) (hiN : i + 5 ≤ N) (hN : N ≤ 2560) (hl : lv_has ls 8 [(5, .int xi), (4, .ref od), (3, .ref oo), (2, .ref om), (1, .ref ox), (0, .ref b)]) (hxi : xi = nI i) (hc : cells ≤ 100 + 10 * t) (hsl : slots ≤ 6000 + 200 * t) (KK : ∀ (H1 : Heap) (locs1 : List Loc) (cells1 slots1 : Nat) (ls1 : Array Slot), lwW G s ox om oo od (t + 1) H1 locs1 → cells1 ≤ 100 + 10 * (t + 1) → slots1 ≤ 6000 + 200 * (t + 1) → lv_has ls1 8 [(5, .int xi), (4, .ref od), (3, .ref oo), (2, .ref om), (1, .ref ox), (0, .ref b)] → W p l e room_1 s m #[.ref b] below meth c H1 locs1 cells1 slots1 Q (F0 m 1636 ls1 [])) : W p l e room_1 s m #[.ref b] below meth c H locs cells slots Q (F0 m 536 ls []) := by
  obtain ⟨hx, hb, hml, hown, hts, hX, hbl, hK, hE, hZ, hNc, hnt⟩ := C0
  obtain ⟨L, f, Lm, fm, fo, fd, lo, ra, ar, ma, n, km, mn, wk, po, rr, th, g0, g1, g2, g3, g4, g5, g6, g7, g8, g9, hLw, hq, hm0, hmr, hI⟩ := hW
  have hA : ∀ q, s.heap.size ≤ q → lwA s q := fun q h => h
  have ht1 : t + 1 ≤ 512 := by omega
  refine lv_aload_n hx hb dL_law_536 rfl (lv_at hl 4 rfl) ?_
  refine lv_aload_n hx hb dL_law_537 rfl (lv_at hl 5 rfl) ?_
  refine lv_iload hx hb dL_law_538 (lv_at hl 0 rfl) ?_
  refine lv_iconst (v := 1) hx hb dL_law_540 (by decide) ?_
  refine lv_iadd hx hb dL_law_541 ?_
  refine lv_topi (fun x_1 ex_1 => ?_)
  have nx_1 : x_1 = nI (i + 1) := ex_1.trans ((congr (congrArg (fun u v : Int32 => u + v) hxi) (rfl : (1 : Int32) = nI 1)).trans (nI_add _ _))
  refine lw_sld (i := i) (k := 1) hx hb hX hbl hLw.1.2.2 nx_1 (by omega) hN dL_law_542 ?_
  refine lv_aload_n hx hb dL_law_543 rfl (lv_at hl 5 rfl) ?_
  refine lv_iload hx hb dL_law_544 (lv_at hl 0 rfl) ?_
  refine lv_iconst (v := 2) hx hb dL_law_546 (by decide) ?_
  refine lv_iadd hx hb dL_law_547 ?_
  refine lv_topi (fun x_2 ex_2 => ?_)
  have nx_2 : x_2 = nI (i + 2) := ex_2.trans ((congr (congrArg (fun u v : Int32 => u + v) hxi) (rfl : (2 : Int32) = nI 2)).trans (nI_add _ _))
  refine lw_sld (i := i) (k := 2) hx hb hX hbl hLw.1.2.2 nx_2 (by omega) hN dL_law_548 ?_
  refine lv_aload_n hx hb dL_law_549 rfl (lv_at hl 5 rfl) ?_
  refine lv_iload hx hb dL_law_550 (lv_at hl 0 rfl) ?_
  refine lv_iconst (v := 3) hx hb dL_law_552 (by decide) ?_
  refine lv_iadd hx hb dL_law_553 ?_
  refine lv_topi (fun x_3 ex_3 => ?_)
  have nx_3 : x_3 = nI (i + 3) := ex_3.trans ((congr (congrArg (fun u v : Int32 => u + v) hxi) (rfl : (3 : Int32) = nI 3)).trans (nI_add _ _))
  refine lw_sld (i := i) (k := 3) hx hb hX hbl hLw.1.2.2 nx_3 (by omega) hN dL_law_554 ?_
  refine lv_aload_n hx hb dL_law_555 rfl (lv_at hl 2 rfl) ?_
  refine wL_callO (vx_runSX (As := [.ref ox, .int (xs (i + 1)), .int (xs (i + 2)), .int (xs (i + 3)), .ref oo]) (rest := []) ⟨hx, hb, hml, hown, hts⟩ (m_L_drive l hnt hq (xs (i + 1)) (xs (i + 2)) (xs (i + 3))) (vx_cwSW 5 hts gL_law_L_drive rfl rfl rfl (by decide +kernel) ⟨Nat.le_of_ble_eq_true rfl, Nat.le_of_ble_eq_true rfl⟩) (wL_preO hK hE hZ hNc hLw hA) rfl rfl hl.1 rfl (lv_room (Nat.le_of_ble_eq_true rfl)) dL_law_556 ⟨(show cells + 4 ≤ 601024 by omega), (show slots + 24 ≤ 7293034 by omega)⟩) hLw hA (fun C1 L1 f1 fo1 H locs hp hLw1 => ?_)
  obtain ⟨rfl, hp0, hp1⟩ := hp
  refine lv_istore (lv' := [(6, .int (dvC n (xs (i + 1)) (xs (i + 2)) (xs (i + 3)) (rfi (rr (ix (xs (i + 1))))))), (5, .int xi), (4, .ref od), (3, .ref oo), (2, .ref om), (1, .ref ox), (0, .ref b)]) hx hb dL_law_559 hl (by decide) rfl (fun ls hl => ?_)
  refine lv_aload_n hx hb dL_law_561 rfl (lv_at hl 4 rfl) ?_
  refine lv_aload_n hx hb dL_law_562 rfl (lv_at hl 6 rfl) ?_
  refine lv_iload hx hb dL_law_563 (lv_at hl 1 rfl) ?_
  refine lv_iconst (v := 1) hx hb dL_law_565 (by decide) ?_
  refine lv_iadd hx hb dL_law_566 ?_
  refine lv_topi (fun x_4 ex_4 => ?_)
  have nx_4 : x_4 = nI (i + 1) := ex_4.trans ((congr (congrArg (fun u v : Int32 => u + v) hxi) (rfl : (1 : Int32) = nI 1)).trans (nI_add _ _))
  refine lw_sld (i := i) (k := 1) hx hb hX hbl hLw1.1.2.2 nx_4 (by omega) hN dL_law_567 ?_
  refine lv_aload_n hx hb dL_law_568 rfl (lv_at hl 6 rfl) ?_
  refine lv_iload hx hb dL_law_569 (lv_at hl 1 rfl) ?_
  refine lv_iconst (v := 2) hx hb dL_law_571 (by decide) ?_
  refine lv_iadd hx hb dL_law_572 ?_
  refine lv_topi (fun x_5 ex_5 => ?_)
  have nx_5 : x_5 = nI (i + 2) := ex_5.trans ((congr (congrArg (fun u v : Int32 => u + v) hxi) (rfl : (2 : Int32) = nI 2)).trans (nI_add _ _))
  refine lw_sld (i := i) (k := 2) hx hb hX hbl hLw1.1.2.2 nx_5 (by omega) hN dL_law_573 ?_
  refine lv_aload_n hx hb dL_law_574 rfl (lv_at hl 6 rfl) ?_
  refine lv_iload hx hb dL_law_575 (lv_at hl 1 rfl) ?_
  refine lv_iconst (v := 3) hx hb dL_law_577 (by decide) ?_
  refine lv_iadd hx hb dL_law_578 ?_
  refine lv_topi (fun x_6 ex_6 => ?_)
  have nx_6 : x_6 = nI (i + 3) := ex_6.trans ((congr (congrArg (fun u v : Int32 => u + v) hxi) (rfl : (3 : Int32) = nI 3)).trans (nI_add _ _))
  refine lw_sld (i := i) (k := 3) hx hb hX hbl hLw1.1.2.2 nx_6 (by omega) hN dL_law_579 ?_
  refine wL_callM (va_runV (As := [.int (xs (i + 1)), .int (xs (i + 2)), .int (xs (i + 3))]) (rest := []) ⟨hx, hb, hml, hown, hts⟩ (m_X2_drive l hm0 hmr hI.1 ht1 (xs (i + 1)) (xs (i + 2)) (xs (i + 3))) (cwV 3 hts gL_law_X2_drive rfl rfl rfl (by decide +kernel) ⟨Nat.le_of_ble_eq_true rfl, Nat.le_of_ble_eq_true rfl⟩) (wy_pVW hK hLw1.2.1 hm0.1 rfl) rfl rfl hl.1 rfl (lv_room (Nat.le_of_ble_eq_true rfl)) dL_law_580 ⟨(show cells + 4 + 0 ≤ 601024 by omega), (show slots + 24 + 0 ≤ 7293034 by omega)⟩) hLw1 hA (fun r L9 f9 h9 => h9.2.1) (fun r1 fm1 H locs hpm hLw2 => ?_)
  obtain ⟨er, -, h0, h1, h2, h3, h4, h5, h6, h7, h8, h9, hm1, hmr1⟩ := hpm
  subst er
  refine lv_istore (lv' := [(7, .int (if (dvC n (xs (i + 1)) (xs (i + 2)) (xs (i + 3)) (rfi (rr (ix (xs (i + 1)))))) = 0 then (if cb (rsd (rr (ix (xs (i + 1))))) 10 = 0 then 0 else (xs (i + 2)) * km + (xs (i + 3)) * mn) else 0)), (6, .int (dvC n (xs (i + 1)) (xs (i + 2)) (xs (i + 3)) (rfi (rr (ix (xs (i + 1))))))), (5, .int xi), (4, .ref od), (3, .ref oo), (2, .ref om), (1, .ref ox), (0, .ref b)]) hx hb dL_law_583 hl (by decide) rfl (fun ls hl => ?_)
  refine lv_aload_n hx hb dL_law_585 rfl (lv_at hl 5 rfl) ?_
  refine vp_callSi (W.runV (As := []) (rest := []) ⟨hx, hb, hml, hown, hts⟩ (m_X2_thrown0 l hm1) (cwV 0 hts gL_law_X2_thrown rfl rfl rfl (by decide +kernel) ⟨Nat.le_of_ble_eq_true rfl, Nat.le_of_ble_eq_true rfl⟩) (wy_pVR hK hLw2.2.1.1 hm1.1 rfl) rfl rfl hl.1 rfl (lv_room (Nat.le_of_ble_eq_true rfl)) dL_law_586 ⟨(show cells + 4 + 0 + 0 ≤ 601024 by omega), (show slots + 24 + 0 + 0 ≤ 7293034 by omega)⟩) (fun r2 er2 => ?_)
  subst er2
  refine lv_iload hx hb dL_law_589 (lv_at hl 1 rfl) ?_
  refine lv_icmp_eq (tgt := 596) hx hb dL_law_591 (by decide) (fun _ => ?_) (fun z => absurd rfl z)
  refine lv_iload hx hb dL_law_596 (lv_at hl 1 rfl) ?_
  refine lv_if_ne (tgt := 613) hx hb dL_law_598 (by decide) (fun cT => ?_) (fun cT => ?_)
  · simp only [if_neg cT] at hm1 hmr1
    obtain ⟨rfl, rfl⟩ := hp1 cT
    refine lv_goto (tgt := 1636) hx hb dL_law_613 (by decide) ?_
    exact KK _ _ _ _ _ ⟨L1, f1, Lm, fm1, fo1, fd, lo, ra, ar, ma, n, km, mn, wk, po, rr, _, h0, h1, h2, h3, h4, h5, h6, h7, h8, h9, hLw2, hq, hm1, hmr1, hI.same⟩ (by omega) (by omega) (lv_sub hl [2, 3, 4, 5, 6, 7] rfl)
  · simp only [if_pos cT] at hm1 hmr1
    obtain ⟨hv, ra2, ar2, hS⟩ := hp0 cT
    refine lv_aload_n hx hb dL_law_601 rfl (lv_at hl 4 rfl) ?_
    refine lv_iconst (v := 0) hx hb dL_law_602 (by decide) ?_
    refine lw_lald hx hb hK hLw2 dL_law_603 ?_
    rw [hv]
    refine lv_iload hx hb dL_law_604 (lv_at hl 0 rfl) ?_
    refine lv_i2l (v := (if (dvC n (xs (i + 1)) (xs (i + 2)) (xs (i + 3)) (rfi (rr (ix (xs (i + 1)))))) = 0 then (if cb (rsd (rr (ix (xs (i + 1))))) 10 = 0 then 0 else (xs (i + 2)) * km + (xs (i + 3)) * mn) else 0).toInt64) hx hb dL_law_606 rfl ?_
    refine W.lcmp hx hb dL_law_607 ?_
    rw [if_pos cT, lg_cmp_self]
    refine lv_if_eq (tgt := 613) hx hb dL_law_608 (by decide) (fun _ => ?_) (fun z => absurd rfl z)
    refine lv_goto (tgt := 1636) hx hb dL_law_613 (by decide) ?_
    exact KK _ _ _ _ _ ⟨L1, f1, Lm, fm1, fo1, fd, lo, ra2, ar2, ma, _, _, _, _, _, _, _, h0, h1, h2, h3, h4, h5, h6, h7, h8, h9, hLw2, hS, hm1, hmr1, st_drive hI (by omega) cT⟩ (by omega) (by omega) (lv_sub hl [2, 3, 4, 5, 6, 7] rfl)
set_option maxHeartbeats 4000000 in
set_option maxRecDepth 100000 in
theorem lw_finish (l : Launch) {G : wy_G} {p : Program} {e : Env} {s : State} {m : MethodId} {below : List Frame} {meth : Method} {c : Code} {H : Heap} {locs : List Loc} {cells slots b N ox om oo od t i : Nat} {xs : Nat → Int32} {Q : State → Prop} {ls : Array Slot} {xi : Int32} (C0 : lwC G p l s m meth c b N xs) (hW : lwW G s ox om oo od t H locs) (hit : i = 5 * t) (hiN : i + 5 ≤ N) (hN : N ≤ 2560) (hl : lv_has ls 8 [(5, .int xi), (4, .ref od), (3, .ref oo), (2, .ref om), (1, .ref ox), (0, .ref b)]) (hxi : xi = nI i) (hc : cells ≤ 100 + 10 * t) (hsl : slots ≤ 6000 + 200 * t) (KK : ∀ (H1 : Heap) (locs1 : List Loc) (cells1 slots1 : Nat) (ls1 : Array Slot), lwW G s ox om oo od (t + 1) H1 locs1 → cells1 ≤ 100 + 10 * (t + 1) → slots1 ≤ 6000 + 200 * (t + 1) → lv_has ls1 8 [(5, .int xi), (4, .ref od), (3, .ref oo), (2, .ref om), (1, .ref ox), (0, .ref b)] → W p l e room_1 s m #[.ref b] below meth c H1 locs1 cells1 slots1 Q (F0 m 1636 ls1 [])) : W p l e room_1 s m #[.ref b] below meth c H locs cells slots Q (F0 m 616 ls []) := by
  obtain ⟨hx, hb, hml, hown, hts, hX, hbl, hK, hE, hZ, hNc, hnt⟩ := C0
  obtain ⟨L, f, Lm, fm, fo, fd, lo, ra, ar, ma, n, km, mn, wk, po, rr, th, g0, g1, g2, g3, g4, g5, g6, g7, g8, g9, hLw, hq, hm0, hmr, hI⟩ := hW
  have hA : ∀ q, s.heap.size ≤ q → lwA s q := fun q h => h
  have ht1 : t + 1 ≤ 512 := by omega
  refine lv_aload_n hx hb dL_law_616 rfl (lv_at hl 4 rfl) ?_
  refine lv_aload_n hx hb dL_law_617 rfl (lv_at hl 5 rfl) ?_
  refine lv_iload hx hb dL_law_618 (lv_at hl 0 rfl) ?_
  refine lv_iconst (v := 1) hx hb dL_law_620 (by decide) ?_
  refine lv_iadd hx hb dL_law_621 ?_
  refine lv_topi (fun x_1 ex_1 => ?_)
  have nx_1 : x_1 = nI (i + 1) := ex_1.trans ((congr (congrArg (fun u v : Int32 => u + v) hxi) (rfl : (1 : Int32) = nI 1)).trans (nI_add _ _))
  refine lw_sld (i := i) (k := 1) hx hb hX hbl hLw.1.2.2 nx_1 (by omega) hN dL_law_622 ?_
  refine lv_aload_n hx hb dL_law_623 rfl (lv_at hl 2 rfl) ?_
  refine wL_callO (vx_runSX (As := [.ref ox, .int (xs (i + 1)), .ref oo]) (rest := []) ⟨hx, hb, hml, hown, hts⟩ (m_L_finish l hnt hq (xs (i + 1))) (vx_cwSW 3 hts gL_law_L_finish rfl rfl rfl (by decide +kernel) ⟨Nat.le_of_ble_eq_true rfl, Nat.le_of_ble_eq_true rfl⟩) (wL_preO hK hE hZ hNc hLw hA) rfl rfl hl.1 rfl (lv_room (Nat.le_of_ble_eq_true rfl)) dL_law_624 ⟨(show cells + 2 ≤ 601024 by omega), (show slots + 12 ≤ 7293034 by omega)⟩) hLw hA (fun C1 L1 f1 fo1 H locs hp hLw1 => ?_)
  obtain ⟨rfl, hp0, hp1⟩ := hp
  refine lv_istore (lv' := [(6, .int (fnC n (xs (i + 1)) (rfi (rr (ix (xs (i + 1))))))), (5, .int xi), (4, .ref od), (3, .ref oo), (2, .ref om), (1, .ref ox), (0, .ref b)]) hx hb dL_law_627 hl (by decide) rfl (fun ls hl => ?_)
  refine lv_aload_n hx hb dL_law_629 rfl (lv_at hl 4 rfl) ?_
  refine lv_aload_n hx hb dL_law_630 rfl (lv_at hl 6 rfl) ?_
  refine lv_iload hx hb dL_law_631 (lv_at hl 1 rfl) ?_
  refine lv_iconst (v := 1) hx hb dL_law_633 (by decide) ?_
  refine lv_iadd hx hb dL_law_634 ?_
  refine lv_topi (fun x_2 ex_2 => ?_)
  have nx_2 : x_2 = nI (i + 1) := ex_2.trans ((congr (congrArg (fun u v : Int32 => u + v) hxi) (rfl : (1 : Int32) = nI 1)).trans (nI_add _ _))
  refine lw_sld (i := i) (k := 1) hx hb hX hbl hLw1.1.2.2 nx_2 (by omega) hN dL_law_635 ?_
  refine wL_callM (va_runV (As := [.int (xs (i + 1))]) (rest := []) ⟨hx, hb, hml, hown, hts⟩ (m_X2_finish l hm0 hmr hI.1 ht1 (xs (i + 1))) (cwV 1 hts gL_law_X2_finish rfl rfl rfl (by decide +kernel) ⟨Nat.le_of_ble_eq_true rfl, Nat.le_of_ble_eq_true rfl⟩) (wy_pVW hK hLw1.2.1 hm0.1 rfl) rfl rfl hl.1 rfl (lv_room (Nat.le_of_ble_eq_true rfl)) dL_law_636 ⟨(show cells + 2 + 0 ≤ 601024 by omega), (show slots + 12 + 0 ≤ 7293034 by omega)⟩) hLw1 hA (fun r L9 f9 h9 => h9.2.1) (fun r1 fm1 H locs hpm hLw2 => ?_)
  obtain ⟨er, -, h0, h1, h2, h3, h4, h5, h6, h7, h8, h9, hm1, hmr1⟩ := hpm
  subst er
  refine lv_istore (lv' := [(7, .int (if (fnC n (xs (i + 1)) (rfi (rr (ix (xs (i + 1)))))) = 0 then (bx_sum (endc (rbk (rr (ix (xs (i + 1))))) (rch (rr (ix (xs (i + 1))))) 10) 10) else 0)), (6, .int (fnC n (xs (i + 1)) (rfi (rr (ix (xs (i + 1))))))), (5, .int xi), (4, .ref od), (3, .ref oo), (2, .ref om), (1, .ref ox), (0, .ref b)]) hx hb dL_law_639 hl (by decide) rfl (fun ls hl => ?_)
  refine lv_aload_n hx hb dL_law_641 rfl (lv_at hl 5 rfl) ?_
  refine vp_callSi (W.runV (As := []) (rest := []) ⟨hx, hb, hml, hown, hts⟩ (m_X2_thrown0 l hm1) (cwV 0 hts gL_law_X2_thrown rfl rfl rfl (by decide +kernel) ⟨Nat.le_of_ble_eq_true rfl, Nat.le_of_ble_eq_true rfl⟩) (wy_pVR hK hLw2.2.1.1 hm1.1 rfl) rfl rfl hl.1 rfl (lv_room (Nat.le_of_ble_eq_true rfl)) dL_law_642 ⟨(show cells + 2 + 0 + 0 ≤ 601024 by omega), (show slots + 12 + 0 + 0 ≤ 7293034 by omega)⟩) (fun r2 er2 => ?_)
  subst er2
  refine lv_iload hx hb dL_law_645 (lv_at hl 1 rfl) ?_
  refine lv_icmp_eq (tgt := 652) hx hb dL_law_647 (by decide) (fun _ => ?_) (fun z => absurd rfl z)
  refine lv_iload hx hb dL_law_652 (lv_at hl 1 rfl) ?_
  refine lv_if_ne (tgt := 669) hx hb dL_law_654 (by decide) (fun cT => ?_) (fun cT => ?_)
  · simp only [if_neg cT] at hm1 hmr1
    obtain ⟨rfl, rfl⟩ := hp1 cT
    refine lv_goto (tgt := 1636) hx hb dL_law_669 (by decide) ?_
    exact KK _ _ _ _ _ ⟨L1, f1, Lm, fm1, fo1, fd, lo, ra, ar, ma, n, km, mn, wk, po, rr, _, h0, h1, h2, h3, h4, h5, h6, h7, h8, h9, hLw2, hq, hm1, hmr1, hI.same⟩ (by omega) (by omega) (lv_sub hl [2, 3, 4, 5, 6, 7] rfl)
  · simp only [if_pos cT] at hm1 hmr1
    obtain ⟨hv, ra2, ar2, hS⟩ := hp0 cT
    refine lv_aload_n hx hb dL_law_657 rfl (lv_at hl 4 rfl) ?_
    refine lv_iconst (v := 0) hx hb dL_law_658 (by decide) ?_
    refine lw_lald hx hb hK hLw2 dL_law_659 ?_
    rw [hv]
    refine lv_iload hx hb dL_law_660 (lv_at hl 0 rfl) ?_
    refine lv_i2l (v := (if (fnC n (xs (i + 1)) (rfi (rr (ix (xs (i + 1)))))) = 0 then (bx_sum (endc (rbk (rr (ix (xs (i + 1))))) (rch (rr (ix (xs (i + 1))))) 10) 10) else 0).toInt64) hx hb dL_law_662 rfl ?_
    refine W.lcmp hx hb dL_law_663 ?_
    rw [if_pos cT, lg_cmp_self]
    refine lv_if_eq (tgt := 669) hx hb dL_law_664 (by decide) (fun _ => ?_) (fun z => absurd rfl z)
    refine lv_goto (tgt := 1636) hx hb dL_law_669 (by decide) ?_
    exact KK _ _ _ _ _ ⟨L1, f1, Lm, fm1, fo1, fd, lo, ra2, ar2, ma, _, _, _, _, _, _, _, h0, h1, h2, h3, h4, h5, h6, h7, h8, h9, hLw2, hS, hm1, hmr1, st_finish hI cT⟩ (by omega) (by omega) (lv_sub hl [2, 3, 4, 5, 6, 7] rfl)
set_option maxHeartbeats 4000000 in
set_option maxRecDepth 100000 in
theorem lw_aboard (l : Launch) {G : wy_G} {p : Program} {e : Env} {s : State} {m : MethodId} {below : List Frame} {meth : Method} {c : Code} {H : Heap} {locs : List Loc} {cells slots b N ox om oo od t i : Nat} {xs : Nat → Int32} {Q : State → Prop} {ls : Array Slot} {xi : Int32} (C0 : lwC G p l s m meth c b N xs) (hW : lwW G s ox om oo od t H locs) (hit : i = 5 * t) (hiN : i + 5 ≤ N) (hN : N ≤ 2560) (hl : lv_has ls 8 [(5, .int xi), (4, .ref od), (3, .ref oo), (2, .ref om), (1, .ref ox), (0, .ref b)]) (hxi : xi = nI i) (hc : cells ≤ 100 + 10 * t) (hsl : slots ≤ 6000 + 200 * t) (KK : ∀ (H1 : Heap) (locs1 : List Loc) (cells1 slots1 : Nat) (ls1 : Array Slot), lwW G s ox om oo od (t + 1) H1 locs1 → cells1 ≤ 100 + 10 * (t + 1) → slots1 ≤ 6000 + 200 * (t + 1) → lv_has ls1 8 [(5, .int xi), (4, .ref od), (3, .ref oo), (2, .ref om), (1, .ref ox), (0, .ref b)] → W p l e room_1 s m #[.ref b] below meth c H1 locs1 cells1 slots1 Q (F0 m 1636 ls1 [])) : W p l e room_1 s m #[.ref b] below meth c H locs cells slots Q (F0 m 672 ls []) := by
  obtain ⟨hx, hb, hml, hown, hts, hX, hbl, hK, hE, hZ, hNc, hnt⟩ := C0
  obtain ⟨L, f, Lm, fm, fo, fd, lo, ra, ar, ma, n, km, mn, wk, po, rr, th, g0, g1, g2, g3, g4, g5, g6, g7, g8, g9, hLw, hq, hm0, hmr, hI⟩ := hW
  have hA : ∀ q, s.heap.size ≤ q → lwA s q := fun q h => h
  have ht1 : t + 1 ≤ 512 := by omega
  refine lv_aload_n hx hb dL_law_672 rfl (lv_at hl 4 rfl) ?_
  refine lv_aload_n hx hb dL_law_673 rfl (lv_at hl 5 rfl) ?_
  refine lv_iload hx hb dL_law_674 (lv_at hl 0 rfl) ?_
  refine lv_iconst (v := 1) hx hb dL_law_676 (by decide) ?_
  refine lv_iadd hx hb dL_law_677 ?_
  refine lv_topi (fun x_1 ex_1 => ?_)
  have nx_1 : x_1 = nI (i + 1) := ex_1.trans ((congr (congrArg (fun u v : Int32 => u + v) hxi) (rfl : (1 : Int32) = nI 1)).trans (nI_add _ _))
  refine lw_sld (i := i) (k := 1) hx hb hX hbl hLw.1.2.2 nx_1 (by omega) hN dL_law_678 ?_
  refine lv_aload_n hx hb dL_law_679 rfl (lv_at hl 2 rfl) ?_
  refine wL_callO (vx_runSX (As := [.ref ox, .int (xs (i + 1)), .ref oo]) (rest := []) ⟨hx, hb, hml, hown, hts⟩ (m_L_aboard l hnt hq (xs (i + 1))) (vx_cwSW 3 hts gL_law_L_aboard rfl rfl rfl (by decide +kernel) ⟨Nat.le_of_ble_eq_true rfl, Nat.le_of_ble_eq_true rfl⟩) (wL_preO hK hE hZ hNc hLw hA) rfl rfl hl.1 rfl (lv_room (Nat.le_of_ble_eq_true rfl)) dL_law_680 ⟨(show cells + 1 ≤ 601024 by omega), (show slots + 6 ≤ 7293034 by omega)⟩) hLw hA (fun C1 L1 f1 fo1 H locs hp hLw1 => ?_)
  obtain ⟨rfl, hp0, hp1⟩ := hp
  refine lv_istore (lv' := [(6, .int (okC n (xs (i + 1)))), (5, .int xi), (4, .ref od), (3, .ref oo), (2, .ref om), (1, .ref ox), (0, .ref b)]) hx hb dL_law_683 hl (by decide) rfl (fun ls hl => ?_)
  refine lv_aload_n hx hb dL_law_685 rfl (lv_at hl 4 rfl) ?_
  refine lv_aload_n hx hb dL_law_686 rfl (lv_at hl 6 rfl) ?_
  refine lv_iload hx hb dL_law_687 (lv_at hl 1 rfl) ?_
  refine lv_iconst (v := 1) hx hb dL_law_689 (by decide) ?_
  refine lv_iadd hx hb dL_law_690 ?_
  refine lv_topi (fun x_2 ex_2 => ?_)
  have nx_2 : x_2 = nI (i + 1) := ex_2.trans ((congr (congrArg (fun u v : Int32 => u + v) hxi) (rfl : (1 : Int32) = nI 1)).trans (nI_add _ _))
  refine lw_sld (i := i) (k := 1) hx hb hX hbl hLw1.1.2.2 nx_2 (by omega) hN dL_law_691 ?_
  refine wL_callM (va_runV (As := [.int (xs (i + 1))]) (rest := []) ⟨hx, hb, hml, hown, hts⟩ (m_X2_aboard l hm0 hmr hI.1 ht1 (xs (i + 1))) (cwV 1 hts gL_law_X2_aboard rfl rfl rfl (by decide +kernel) ⟨Nat.le_of_ble_eq_true rfl, Nat.le_of_ble_eq_true rfl⟩) (wy_pVW hK hLw1.2.1 hm0.1 rfl) rfl rfl hl.1 rfl (lv_room (Nat.le_of_ble_eq_true rfl)) dL_law_692 ⟨(show cells + 1 + 0 ≤ 601024 by omega), (show slots + 6 + 0 ≤ 7293034 by omega)⟩) hLw1 hA (fun r L9 f9 h9 => h9.2.1) (fun r1 fm1 H locs hpm hLw2 => ?_)
  obtain ⟨er, -, h0, h1, h2, h3, h4, h5, h6, h7, h8, h9, hm1, hmr1⟩ := hpm
  subst er
  refine lv_istore (lv' := [(7, .int (if (okC n (xs (i + 1))) = 0 then (mks (rsd (rr (ix (xs (i + 1)))))) else 0)), (6, .int (okC n (xs (i + 1)))), (5, .int xi), (4, .ref od), (3, .ref oo), (2, .ref om), (1, .ref ox), (0, .ref b)]) hx hb dL_law_695 hl (by decide) rfl (fun ls hl => ?_)
  refine lv_aload_n hx hb dL_law_697 rfl (lv_at hl 5 rfl) ?_
  refine vp_callSi (W.runV (As := []) (rest := []) ⟨hx, hb, hml, hown, hts⟩ (m_X2_thrown0 l hm1) (cwV 0 hts gL_law_X2_thrown rfl rfl rfl (by decide +kernel) ⟨Nat.le_of_ble_eq_true rfl, Nat.le_of_ble_eq_true rfl⟩) (wy_pVR hK hLw2.2.1.1 hm1.1 rfl) rfl rfl hl.1 rfl (lv_room (Nat.le_of_ble_eq_true rfl)) dL_law_698 ⟨(show cells + 1 + 0 + 0 ≤ 601024 by omega), (show slots + 6 + 0 + 0 ≤ 7293034 by omega)⟩) (fun r2 er2 => ?_)
  subst er2
  refine lv_iload hx hb dL_law_701 (lv_at hl 1 rfl) ?_
  refine lv_icmp_eq (tgt := 708) hx hb dL_law_703 (by decide) (fun _ => ?_) (fun z => absurd rfl z)
  refine lv_iload hx hb dL_law_708 (lv_at hl 1 rfl) ?_
  refine lv_if_ne (tgt := 725) hx hb dL_law_710 (by decide) (fun cT => ?_) (fun cT => ?_)
  · simp only [if_neg cT] at hm1 hmr1
    obtain ⟨rfl, rfl⟩ := hp1 cT
    refine lv_goto (tgt := 1636) hx hb dL_law_725 (by decide) ?_
    exact KK _ _ _ _ _ ⟨L1, f1, Lm, fm1, fo1, fd, lo, ra, ar, ma, n, km, mn, wk, po, rr, _, h0, h1, h2, h3, h4, h5, h6, h7, h8, h9, hLw2, hq, hm1, hmr1, hI.same⟩ (by omega) (by omega) (lv_sub hl [2, 3, 4, 5, 6, 7] rfl)
  · simp only [if_pos cT] at hm1 hmr1
    obtain ⟨hv, ra2, ar2, hS⟩ := hp0 cT
    refine lv_aload_n hx hb dL_law_713 rfl (lv_at hl 4 rfl) ?_
    refine lv_iconst (v := 0) hx hb dL_law_714 (by decide) ?_
    refine lw_lald hx hb hK hLw2 dL_law_715 ?_
    rw [hv]
    refine lv_iload hx hb dL_law_716 (lv_at hl 0 rfl) ?_
    refine lv_i2l (v := (if (okC n (xs (i + 1))) = 0 then (mks (rsd (rr (ix (xs (i + 1)))))) else 0).toInt64) hx hb dL_law_718 rfl ?_
    refine W.lcmp hx hb dL_law_719 ?_
    rw [if_pos cT, lg_cmp_self]
    refine lv_if_eq (tgt := 725) hx hb dL_law_720 (by decide) (fun _ => ?_) (fun z => absurd rfl z)
    refine lv_goto (tgt := 1636) hx hb dL_law_725 (by decide) ?_
    exact KK _ _ _ _ _ ⟨L1, f1, Lm, fm1, fo1, fd, lo, ra2, ar2, ma, _, _, _, _, _, _, _, h0, h1, h2, h3, h4, h5, h6, h7, h8, h9, hLw2, hS, hm1, hmr1, hI.same⟩ (by omega) (by omega) (lv_sub hl [2, 3, 4, 5, 6, 7] rfl)
set_option maxHeartbeats 4000000 in
set_option maxRecDepth 100000 in
theorem lw_charge (l : Launch) {G : wy_G} {p : Program} {e : Env} {s : State} {m : MethodId} {below : List Frame} {meth : Method} {c : Code} {H : Heap} {locs : List Loc} {cells slots b N ox om oo od t i : Nat} {xs : Nat → Int32} {Q : State → Prop} {ls : Array Slot} {xi : Int32} (C0 : lwC G p l s m meth c b N xs) (hW : lwW G s ox om oo od t H locs) (hit : i = 5 * t) (hiN : i + 5 ≤ N) (hN : N ≤ 2560) (hl : lv_has ls 8 [(5, .int xi), (4, .ref od), (3, .ref oo), (2, .ref om), (1, .ref ox), (0, .ref b)]) (hxi : xi = nI i) (hc : cells ≤ 100 + 10 * t) (hsl : slots ≤ 6000 + 200 * t) (KK : ∀ (H1 : Heap) (locs1 : List Loc) (cells1 slots1 : Nat) (ls1 : Array Slot), lwW G s ox om oo od (t + 1) H1 locs1 → cells1 ≤ 100 + 10 * (t + 1) → slots1 ≤ 6000 + 200 * (t + 1) → lv_has ls1 8 [(5, .int xi), (4, .ref od), (3, .ref oo), (2, .ref om), (1, .ref ox), (0, .ref b)] → W p l e room_1 s m #[.ref b] below meth c H1 locs1 cells1 slots1 Q (F0 m 1636 ls1 [])) : W p l e room_1 s m #[.ref b] below meth c H locs cells slots Q (F0 m 728 ls []) := by
  obtain ⟨hx, hb, hml, hown, hts, hX, hbl, hK, hE, hZ, hNc, hnt⟩ := C0
  obtain ⟨L, f, Lm, fm, fo, fd, lo, ra, ar, ma, n, km, mn, wk, po, rr, th, g0, g1, g2, g3, g4, g5, g6, g7, g8, g9, hLw, hq, hm0, hmr, hI⟩ := hW
  have hA : ∀ q, s.heap.size ≤ q → lwA s q := fun q h => h
  have ht1 : t + 1 ≤ 512 := by omega
  refine lv_aload_n hx hb dL_law_728 rfl (lv_at hl 4 rfl) ?_
  refine lv_aload_n hx hb dL_law_729 rfl (lv_at hl 5 rfl) ?_
  refine lv_iload hx hb dL_law_730 (lv_at hl 0 rfl) ?_
  refine lv_iconst (v := 1) hx hb dL_law_732 (by decide) ?_
  refine lv_iadd hx hb dL_law_733 ?_
  refine lv_topi (fun x_1 ex_1 => ?_)
  have nx_1 : x_1 = nI (i + 1) := ex_1.trans ((congr (congrArg (fun u v : Int32 => u + v) hxi) (rfl : (1 : Int32) = nI 1)).trans (nI_add _ _))
  refine lw_sld (i := i) (k := 1) hx hb hX hbl hLw.1.2.2 nx_1 (by omega) hN dL_law_734 ?_
  refine lv_aload_n hx hb dL_law_735 rfl (lv_at hl 5 rfl) ?_
  refine lv_iload hx hb dL_law_736 (lv_at hl 0 rfl) ?_
  refine lv_iconst (v := 2) hx hb dL_law_738 (by decide) ?_
  refine lv_iadd hx hb dL_law_739 ?_
  refine lv_topi (fun x_2 ex_2 => ?_)
  have nx_2 : x_2 = nI (i + 2) := ex_2.trans ((congr (congrArg (fun u v : Int32 => u + v) hxi) (rfl : (2 : Int32) = nI 2)).trans (nI_add _ _))
  refine lw_sld (i := i) (k := 2) hx hb hX hbl hLw.1.2.2 nx_2 (by omega) hN dL_law_740 ?_
  refine lv_aload_n hx hb dL_law_741 rfl (lv_at hl 2 rfl) ?_
  refine wL_callO (vx_runSX (As := [.ref ox, .int (xs (i + 1)), .int (xs (i + 2)), .ref oo]) (rest := []) ⟨hx, hb, hml, hown, hts⟩ (m_L_charge l hnt hq (xs (i + 1)) (xs (i + 2))) (vx_cwSW 4 hts gL_law_L_charge rfl rfl rfl (by decide +kernel) ⟨Nat.le_of_ble_eq_true rfl, Nat.le_of_ble_eq_true rfl⟩) (wL_preO hK hE hZ hNc hLw hA) rfl rfl hl.1 rfl (lv_room (Nat.le_of_ble_eq_true rfl)) dL_law_742 ⟨(show cells + 2 ≤ 601024 by omega), (show slots + 12 ≤ 7293034 by omega)⟩) hLw hA (fun C1 L1 f1 fo1 H locs hp hLw1 => ?_)
  obtain ⟨rfl, hp0, hp1⟩ := hp
  refine lv_istore (lv' := [(6, .int (ok2C n (xs (i + 1)) (xs (i + 2)))), (5, .int xi), (4, .ref od), (3, .ref oo), (2, .ref om), (1, .ref ox), (0, .ref b)]) hx hb dL_law_745 hl (by decide) rfl (fun ls hl => ?_)
  refine lv_aload_n hx hb dL_law_747 rfl (lv_at hl 4 rfl) ?_
  refine lv_aload_n hx hb dL_law_748 rfl (lv_at hl 6 rfl) ?_
  refine lv_iload hx hb dL_law_749 (lv_at hl 1 rfl) ?_
  refine lv_iconst (v := 1) hx hb dL_law_751 (by decide) ?_
  refine lv_iadd hx hb dL_law_752 ?_
  refine lv_topi (fun x_3 ex_3 => ?_)
  have nx_3 : x_3 = nI (i + 1) := ex_3.trans ((congr (congrArg (fun u v : Int32 => u + v) hxi) (rfl : (1 : Int32) = nI 1)).trans (nI_add _ _))
  refine lw_sld (i := i) (k := 1) hx hb hX hbl hLw1.1.2.2 nx_3 (by omega) hN dL_law_753 ?_
  refine lv_aload_n hx hb dL_law_754 rfl (lv_at hl 6 rfl) ?_
  refine lv_iload hx hb dL_law_755 (lv_at hl 1 rfl) ?_
  refine lv_iconst (v := 2) hx hb dL_law_757 (by decide) ?_
  refine lv_iadd hx hb dL_law_758 ?_
  refine lv_topi (fun x_4 ex_4 => ?_)
  have nx_4 : x_4 = nI (i + 2) := ex_4.trans ((congr (congrArg (fun u v : Int32 => u + v) hxi) (rfl : (2 : Int32) = nI 2)).trans (nI_add _ _))
  refine lw_sld (i := i) (k := 2) hx hb hX hbl hLw1.1.2.2 nx_4 (by omega) hN dL_law_759 ?_
  refine wL_callM (va_runV (As := [.int (xs (i + 1)), .int (xs (i + 2))]) (rest := []) ⟨hx, hb, hml, hown, hts⟩ (m_X2_charge l hm0 hmr hI.1 ht1 (xs (i + 1)) (xs (i + 2))) (cwV 2 hts gL_law_X2_charge rfl rfl rfl (by decide +kernel) ⟨Nat.le_of_ble_eq_true rfl, Nat.le_of_ble_eq_true rfl⟩) (wy_pVW hK hLw1.2.1 hm0.1 rfl) rfl rfl hl.1 rfl (lv_room (Nat.le_of_ble_eq_true rfl)) dL_law_760 ⟨(show cells + 2 + 0 ≤ 601024 by omega), (show slots + 12 + 0 ≤ 7293034 by omega)⟩) hLw1 hA (fun r L9 f9 h9 => h9.2.1) (fun r1 fm1 H locs hpm hLw2 => ?_)
  obtain ⟨er, -, h0, h1, h2, h3, h4, h5, h6, h7, h8, h9, hm1, hmr1⟩ := hpm
  subst er
  refine lv_istore (lv' := [(7, .int (if (ok2C n (xs (i + 1)) (xs (i + 2))) = 0 then (rch (rr (ix (xs (i + 1)))) (ix (xs (i + 2)))) else 0)), (6, .int (ok2C n (xs (i + 1)) (xs (i + 2)))), (5, .int xi), (4, .ref od), (3, .ref oo), (2, .ref om), (1, .ref ox), (0, .ref b)]) hx hb dL_law_763 hl (by decide) rfl (fun ls hl => ?_)
  refine lv_aload_n hx hb dL_law_765 rfl (lv_at hl 5 rfl) ?_
  refine vp_callSi (W.runV (As := []) (rest := []) ⟨hx, hb, hml, hown, hts⟩ (m_X2_thrown0 l hm1) (cwV 0 hts gL_law_X2_thrown rfl rfl rfl (by decide +kernel) ⟨Nat.le_of_ble_eq_true rfl, Nat.le_of_ble_eq_true rfl⟩) (wy_pVR hK hLw2.2.1.1 hm1.1 rfl) rfl rfl hl.1 rfl (lv_room (Nat.le_of_ble_eq_true rfl)) dL_law_766 ⟨(show cells + 2 + 0 + 0 ≤ 601024 by omega), (show slots + 12 + 0 + 0 ≤ 7293034 by omega)⟩) (fun r2 er2 => ?_)
  subst er2
  refine lv_iload hx hb dL_law_769 (lv_at hl 1 rfl) ?_
  refine lv_icmp_eq (tgt := 776) hx hb dL_law_771 (by decide) (fun _ => ?_) (fun z => absurd rfl z)
  refine lv_iload hx hb dL_law_776 (lv_at hl 1 rfl) ?_
  refine lv_if_ne (tgt := 793) hx hb dL_law_778 (by decide) (fun cT => ?_) (fun cT => ?_)
  · simp only [if_neg cT] at hm1 hmr1
    obtain ⟨rfl, rfl⟩ := hp1 cT
    refine lv_goto (tgt := 1636) hx hb dL_law_793 (by decide) ?_
    exact KK _ _ _ _ _ ⟨L1, f1, Lm, fm1, fo1, fd, lo, ra, ar, ma, n, km, mn, wk, po, rr, _, h0, h1, h2, h3, h4, h5, h6, h7, h8, h9, hLw2, hq, hm1, hmr1, hI.same⟩ (by omega) (by omega) (lv_sub hl [2, 3, 4, 5, 6, 7] rfl)
  · simp only [if_pos cT] at hm1 hmr1
    obtain ⟨hv, ra2, ar2, hS⟩ := hp0 cT
    refine lv_aload_n hx hb dL_law_781 rfl (lv_at hl 4 rfl) ?_
    refine lv_iconst (v := 0) hx hb dL_law_782 (by decide) ?_
    refine lw_lald hx hb hK hLw2 dL_law_783 ?_
    rw [hv]
    refine lv_iload hx hb dL_law_784 (lv_at hl 0 rfl) ?_
    refine lv_i2l (v := (if (ok2C n (xs (i + 1)) (xs (i + 2))) = 0 then (rch (rr (ix (xs (i + 1)))) (ix (xs (i + 2)))) else 0).toInt64) hx hb dL_law_786 rfl ?_
    refine W.lcmp hx hb dL_law_787 ?_
    rw [if_pos cT, lg_cmp_self]
    refine lv_if_eq (tgt := 793) hx hb dL_law_788 (by decide) (fun _ => ?_) (fun z => absurd rfl z)
    refine lv_goto (tgt := 1636) hx hb dL_law_793 (by decide) ?_
    exact KK _ _ _ _ _ ⟨L1, f1, Lm, fm1, fo1, fd, lo, ra2, ar2, ma, _, _, _, _, _, _, _, h0, h1, h2, h3, h4, h5, h6, h7, h8, h9, hLw2, hS, hm1, hmr1, hI.same⟩ (by omega) (by omega) (lv_sub hl [2, 3, 4, 5, 6, 7] rfl)
set_option maxHeartbeats 4000000 in
set_option maxRecDepth 100000 in
theorem lw_dispute (l : Launch) {G : wy_G} {p : Program} {e : Env} {s : State} {m : MethodId} {below : List Frame} {meth : Method} {c : Code} {H : Heap} {locs : List Loc} {cells slots b N ox om oo od t i : Nat} {xs : Nat → Int32} {Q : State → Prop} {ls : Array Slot} {xi : Int32} (C0 : lwC G p l s m meth c b N xs) (hW : lwW G s ox om oo od t H locs) (hit : i = 5 * t) (hiN : i + 5 ≤ N) (hN : N ≤ 2560) (hl : lv_has ls 8 [(5, .int xi), (4, .ref od), (3, .ref oo), (2, .ref om), (1, .ref ox), (0, .ref b)]) (hxi : xi = nI i) (hc : cells ≤ 100 + 10 * t) (hsl : slots ≤ 6000 + 200 * t) (KK : ∀ (H1 : Heap) (locs1 : List Loc) (cells1 slots1 : Nat) (ls1 : Array Slot), lwW G s ox om oo od (t + 1) H1 locs1 → cells1 ≤ 100 + 10 * (t + 1) → slots1 ≤ 6000 + 200 * (t + 1) → lv_has ls1 8 [(5, .int xi), (4, .ref od), (3, .ref oo), (2, .ref om), (1, .ref ox), (0, .ref b)] → W p l e room_1 s m #[.ref b] below meth c H1 locs1 cells1 slots1 Q (F0 m 1636 ls1 [])) : W p l e room_1 s m #[.ref b] below meth c H locs cells slots Q (F0 m 859 ls []) := by
  obtain ⟨hx, hb, hml, hown, hts, hX, hbl, hK, hE, hZ, hNc, hnt⟩ := C0
  obtain ⟨L, f, Lm, fm, fo, fd, lo, ra, ar, ma, n, km, mn, wk, po, rr, th, g0, g1, g2, g3, g4, g5, g6, g7, g8, g9, hLw, hq, hm0, hmr, hI⟩ := hW
  have hA : ∀ q, s.heap.size ≤ q → lwA s q := fun q h => h
  have ht1 : t + 1 ≤ 512 := by omega
  refine lv_aload_n hx hb dL_law_859 rfl (lv_at hl 4 rfl) ?_
  refine lv_aload_n hx hb dL_law_860 rfl (lv_at hl 5 rfl) ?_
  refine lv_iload hx hb dL_law_861 (lv_at hl 0 rfl) ?_
  refine lv_iconst (v := 1) hx hb dL_law_863 (by decide) ?_
  refine lv_iadd hx hb dL_law_864 ?_
  refine lv_topi (fun x_1 ex_1 => ?_)
  have nx_1 : x_1 = nI (i + 1) := ex_1.trans ((congr (congrArg (fun u v : Int32 => u + v) hxi) (rfl : (1 : Int32) = nI 1)).trans (nI_add _ _))
  refine lw_sld (i := i) (k := 1) hx hb hX hbl hLw.1.2.2 nx_1 (by omega) hN dL_law_865 ?_
  refine lv_aload_n hx hb dL_law_866 rfl (lv_at hl 5 rfl) ?_
  refine lv_iload hx hb dL_law_867 (lv_at hl 0 rfl) ?_
  refine lv_iconst (v := 2) hx hb dL_law_869 (by decide) ?_
  refine lv_iadd hx hb dL_law_870 ?_
  refine lv_topi (fun x_2 ex_2 => ?_)
  have nx_2 : x_2 = nI (i + 2) := ex_2.trans ((congr (congrArg (fun u v : Int32 => u + v) hxi) (rfl : (2 : Int32) = nI 2)).trans (nI_add _ _))
  refine lw_sld (i := i) (k := 2) hx hb hX hbl hLw.1.2.2 nx_2 (by omega) hN dL_law_871 ?_
  refine lv_aload_n hx hb dL_law_872 rfl (lv_at hl 2 rfl) ?_
  refine wL_callO (vx_runSX (As := [.ref ox, .int (xs (i + 1)), .int (xs (i + 2)), .ref oo]) (rest := []) ⟨hx, hb, hml, hown, hts⟩ (m_L_dispute l hnt hq (xs (i + 1)) (xs (i + 2))) (vx_cwSW 4 hts gL_law_L_dispute rfl rfl rfl (by decide +kernel) ⟨Nat.le_of_ble_eq_true rfl, Nat.le_of_ble_eq_true rfl⟩) (wL_preO hK hE hZ hNc hLw hA) rfl rfl hl.1 rfl (lv_room (Nat.le_of_ble_eq_true rfl)) dL_law_873 ⟨(show cells + 3 ≤ 601024 by omega), (show slots + 18 ≤ 7293034 by omega)⟩) hLw hA (fun C1 L1 f1 fo1 H locs hp hLw1 => ?_)
  obtain ⟨rfl, hp0, hp1⟩ := hp
  refine lv_istore (lv' := [(6, .int (rdC n (xs (i + 1)) (xs (i + 2)) (dsB (rr (ix (xs (i + 1)))) (ix (xs (i + 2)))))), (5, .int xi), (4, .ref od), (3, .ref oo), (2, .ref om), (1, .ref ox), (0, .ref b)]) hx hb dL_law_876 hl (by decide) rfl (fun ls hl => ?_)
  refine lv_aload_n hx hb dL_law_878 rfl (lv_at hl 4 rfl) ?_
  refine lv_aload_n hx hb dL_law_879 rfl (lv_at hl 6 rfl) ?_
  refine lv_iload hx hb dL_law_880 (lv_at hl 1 rfl) ?_
  refine lv_iconst (v := 1) hx hb dL_law_882 (by decide) ?_
  refine lv_iadd hx hb dL_law_883 ?_
  refine lv_topi (fun x_3 ex_3 => ?_)
  have nx_3 : x_3 = nI (i + 1) := ex_3.trans ((congr (congrArg (fun u v : Int32 => u + v) hxi) (rfl : (1 : Int32) = nI 1)).trans (nI_add _ _))
  refine lw_sld (i := i) (k := 1) hx hb hX hbl hLw1.1.2.2 nx_3 (by omega) hN dL_law_884 ?_
  refine lv_aload_n hx hb dL_law_885 rfl (lv_at hl 6 rfl) ?_
  refine lv_iload hx hb dL_law_886 (lv_at hl 1 rfl) ?_
  refine lv_iconst (v := 2) hx hb dL_law_888 (by decide) ?_
  refine lv_iadd hx hb dL_law_889 ?_
  refine lv_topi (fun x_4 ex_4 => ?_)
  have nx_4 : x_4 = nI (i + 2) := ex_4.trans ((congr (congrArg (fun u v : Int32 => u + v) hxi) (rfl : (2 : Int32) = nI 2)).trans (nI_add _ _))
  refine lw_sld (i := i) (k := 2) hx hb hX hbl hLw1.1.2.2 nx_4 (by omega) hN dL_law_890 ?_
  refine wL_callM (va_runV (As := [.int (xs (i + 1)), .int (xs (i + 2))]) (rest := []) ⟨hx, hb, hml, hown, hts⟩ (m_X2_dispute l hm0 hmr hI.1 ht1 (xs (i + 1)) (xs (i + 2))) (cwV 2 hts gL_law_X2_dispute rfl rfl rfl (by decide +kernel) ⟨Nat.le_of_ble_eq_true rfl, Nat.le_of_ble_eq_true rfl⟩) (wy_pVW hK hLw1.2.1 hm0.1 rfl) rfl rfl hl.1 rfl (lv_room (Nat.le_of_ble_eq_true rfl)) dL_law_891 ⟨(show cells + 3 + 0 ≤ 601024 by omega), (show slots + 18 + 0 ≤ 7293034 by omega)⟩) hLw1 hA (fun r L9 f9 h9 => h9.2.1) (fun r1 fm1 H locs hpm hLw2 => ?_)
  obtain ⟨er, -, h0, h1, h2, h3, h4, h5, h6, h7, h8, h9, hm1, hmr1⟩ := hpm
  subst er
  refine lv_istore (lv' := [(7, .int (if (rdC n (xs (i + 1)) (xs (i + 2)) (dsB (rr (ix (xs (i + 1)))) (ix (xs (i + 2))))) = 0 then (rch (rr (ix (xs (i + 1)))) (ix (xs (i + 2)))) else 0)), (6, .int (rdC n (xs (i + 1)) (xs (i + 2)) (dsB (rr (ix (xs (i + 1)))) (ix (xs (i + 2)))))), (5, .int xi), (4, .ref od), (3, .ref oo), (2, .ref om), (1, .ref ox), (0, .ref b)]) hx hb dL_law_894 hl (by decide) rfl (fun ls hl => ?_)
  refine lv_aload_n hx hb dL_law_896 rfl (lv_at hl 5 rfl) ?_
  refine vp_callSi (W.runV (As := []) (rest := []) ⟨hx, hb, hml, hown, hts⟩ (m_X2_thrown0 l hm1) (cwV 0 hts gL_law_X2_thrown rfl rfl rfl (by decide +kernel) ⟨Nat.le_of_ble_eq_true rfl, Nat.le_of_ble_eq_true rfl⟩) (wy_pVR hK hLw2.2.1.1 hm1.1 rfl) rfl rfl hl.1 rfl (lv_room (Nat.le_of_ble_eq_true rfl)) dL_law_897 ⟨(show cells + 3 + 0 + 0 ≤ 601024 by omega), (show slots + 18 + 0 + 0 ≤ 7293034 by omega)⟩) (fun r2 er2 => ?_)
  subst er2
  refine lv_iload hx hb dL_law_900 (lv_at hl 1 rfl) ?_
  refine lv_icmp_eq (tgt := 907) hx hb dL_law_902 (by decide) (fun _ => ?_) (fun z => absurd rfl z)
  refine lv_iload hx hb dL_law_907 (lv_at hl 1 rfl) ?_
  refine lv_if_ne (tgt := 924) hx hb dL_law_909 (by decide) (fun cT => ?_) (fun cT => ?_)
  · simp only [if_neg cT] at hm1 hmr1
    obtain ⟨rfl, rfl⟩ := hp1 cT
    refine lv_goto (tgt := 1636) hx hb dL_law_924 (by decide) ?_
    exact KK _ _ _ _ _ ⟨L1, f1, Lm, fm1, fo1, fd, lo, ra, ar, ma, n, km, mn, wk, po, rr, _, h0, h1, h2, h3, h4, h5, h6, h7, h8, h9, hLw2, hq, hm1, hmr1, hI.same⟩ (by omega) (by omega) (lv_sub hl [2, 3, 4, 5, 6, 7] rfl)
  · simp only [if_pos cT] at hm1 hmr1
    obtain ⟨hv, ra2, ar2, hS⟩ := hp0 cT
    refine lv_aload_n hx hb dL_law_912 rfl (lv_at hl 4 rfl) ?_
    refine lv_iconst (v := 0) hx hb dL_law_913 (by decide) ?_
    refine lw_lald hx hb hK hLw2 dL_law_914 ?_
    rw [hv]
    refine lv_iload hx hb dL_law_915 (lv_at hl 0 rfl) ?_
    refine lv_i2l (v := (if (rdC n (xs (i + 1)) (xs (i + 2)) (dsB (rr (ix (xs (i + 1)))) (ix (xs (i + 2))))) = 0 then (rch (rr (ix (xs (i + 1)))) (ix (xs (i + 2)))) else 0).toInt64) hx hb dL_law_917 rfl ?_
    refine W.lcmp hx hb dL_law_918 ?_
    rw [if_pos cT, lg_cmp_self]
    refine lv_if_eq (tgt := 924) hx hb dL_law_919 (by decide) (fun _ => ?_) (fun z => absurd rfl z)
    refine lv_goto (tgt := 1636) hx hb dL_law_924 (by decide) ?_
    exact KK _ _ _ _ _ ⟨L1, f1, Lm, fm1, fo1, fd, lo, ra2, ar2, ma, _, _, _, _, _, _, _, h0, h1, h2, h3, h4, h5, h6, h7, h8, h9, hLw2, hS, hm1, hmr1, st_dispute hI cT⟩ (by omega) (by omega) (lv_sub hl [2, 3, 4, 5, 6, 7] rfl)
set_option maxHeartbeats 4000000 in
set_option maxRecDepth 100000 in
theorem lw_closeWeek (l : Launch) {G : wy_G} {p : Program} {e : Env} {s : State} {m : MethodId} {below : List Frame} {meth : Method} {c : Code} {H : Heap} {locs : List Loc} {cells slots b N ox om oo od t i : Nat} {xs : Nat → Int32} {Q : State → Prop} {ls : Array Slot} {xi : Int32} (C0 : lwC G p l s m meth c b N xs) (hW : lwW G s ox om oo od t H locs) (hit : i = 5 * t) (hiN : i + 5 ≤ N) (hN : N ≤ 2560) (hl : lv_has ls 8 [(5, .int xi), (4, .ref od), (3, .ref oo), (2, .ref om), (1, .ref ox), (0, .ref b)]) (hxi : xi = nI i) (hc : cells ≤ 100 + 10 * t) (hsl : slots ≤ 6000 + 200 * t) (KK : ∀ (H1 : Heap) (locs1 : List Loc) (cells1 slots1 : Nat) (ls1 : Array Slot), lwW G s ox om oo od (t + 1) H1 locs1 → cells1 ≤ 100 + 10 * (t + 1) → slots1 ≤ 6000 + 200 * (t + 1) → lv_has ls1 8 [(5, .int xi), (4, .ref od), (3, .ref oo), (2, .ref om), (1, .ref ox), (0, .ref b)] → W p l e room_1 s m #[.ref b] below meth c H1 locs1 cells1 slots1 Q (F0 m 1636 ls1 [])) : W p l e room_1 s m #[.ref b] below meth c H locs cells slots Q (F0 m 1048 ls []) := by
  obtain ⟨hx, hb, hml, hown, hts, hX, hbl, hK, hE, hZ, hNc, hnt⟩ := C0
  obtain ⟨L, f, Lm, fm, fo, fd, lo, ra, ar, ma, n, km, mn, wk, po, rr, th, g0, g1, g2, g3, g4, g5, g6, g7, g8, g9, hLw, hq, hm0, hmr, hI⟩ := hW
  have hA : ∀ q, s.heap.size ≤ q → lwA s q := fun q h => h
  have ht1 : t + 1 ≤ 512 := by omega
  refine lv_aload_n hx hb dL_law_1048 rfl (lv_at hl 4 rfl) ?_
  refine lv_aload_n hx hb dL_law_1049 rfl (lv_at hl 2 rfl) ?_
  refine wL_callO (vx_runSX (As := [.ref ox, .ref oo]) (rest := []) ⟨hx, hb, hml, hown, hts⟩ (m_L_closeWeek l hnt hq) (vx_cwSW 2 hts gL_law_L_closeWeek rfl rfl rfl (by decide +kernel) ⟨Nat.le_of_ble_eq_true rfl, Nat.le_of_ble_eq_true rfl⟩) (wL_preO hK hE hZ hNc hLw hA) rfl rfl hl.1 rfl (lv_room (Nat.le_of_ble_eq_true rfl)) dL_law_1050 ⟨(show cells + 1 ≤ 601024 by omega), (show slots + 6 ≤ 7293034 by omega)⟩) hLw hA (fun C1 L1 f1 fo1 H locs hp hLw1 => ?_)
  obtain ⟨rfl, hp0, hp1⟩ := hp
  refine lv_istore (lv' := [(6, .int (cwC rr n wk)), (5, .int xi), (4, .ref od), (3, .ref oo), (2, .ref om), (1, .ref ox), (0, .ref b)]) hx hb dL_law_1053 hl (by decide) rfl (fun ls hl => ?_)
  refine lv_aload_n hx hb dL_law_1055 rfl (lv_at hl 4 rfl) ?_
  refine wL_callM (va_runV (As := []) (rest := []) ⟨hx, hb, hml, hown, hts⟩ (m_X2_closeWeek l hm0 hmr hI.1 ht1) (cwV 0 hts gL_law_X2_closeWeek rfl rfl rfl (by decide +kernel) ⟨Nat.le_of_ble_eq_true rfl, Nat.le_of_ble_eq_true rfl⟩) (wy_pVW hK hLw1.2.1 hm0.1 rfl) rfl rfl hl.1 rfl (lv_room (Nat.le_of_ble_eq_true rfl)) dL_law_1056 ⟨(show cells + 1 + 0 ≤ 601024 by omega), (show slots + 6 + 0 ≤ 7293034 by omega)⟩) hLw1 hA (fun r L9 f9 h9 => h9.2.1) (fun r1 fm1 H locs hpm hLw2 => ?_)
  obtain ⟨er, -, h0, h1, h2, h3, h4, h5, h6, h7, h8, h9, hm1, hmr1⟩ := hpm
  subst er
  refine lv_istore (lv' := [(7, .int (if (cwC rr n wk) = 0 then (totW rr n po wk 5) else 0)), (6, .int (cwC rr n wk)), (5, .int xi), (4, .ref od), (3, .ref oo), (2, .ref om), (1, .ref ox), (0, .ref b)]) hx hb dL_law_1059 hl (by decide) rfl (fun ls hl => ?_)
  refine lv_aload_n hx hb dL_law_1061 rfl (lv_at hl 5 rfl) ?_
  refine vp_callSi (W.runV (As := []) (rest := []) ⟨hx, hb, hml, hown, hts⟩ (m_X2_thrown0 l hm1) (cwV 0 hts gL_law_X2_thrown rfl rfl rfl (by decide +kernel) ⟨Nat.le_of_ble_eq_true rfl, Nat.le_of_ble_eq_true rfl⟩) (wy_pVR hK hLw2.2.1.1 hm1.1 rfl) rfl rfl hl.1 rfl (lv_room (Nat.le_of_ble_eq_true rfl)) dL_law_1062 ⟨(show cells + 1 + 0 + 0 ≤ 601024 by omega), (show slots + 6 + 0 + 0 ≤ 7293034 by omega)⟩) (fun r2 er2 => ?_)
  subst er2
  refine lv_iload hx hb dL_law_1065 (lv_at hl 1 rfl) ?_
  refine lv_icmp_eq (tgt := 1072) hx hb dL_law_1067 (by decide) (fun _ => ?_) (fun z => absurd rfl z)
  refine lv_iload hx hb dL_law_1072 (lv_at hl 1 rfl) ?_
  refine lv_if_ne (tgt := 1089) hx hb dL_law_1074 (by decide) (fun cT => ?_) (fun cT => ?_)
  · simp only [if_neg cT] at hm1 hmr1
    obtain ⟨rfl, rfl⟩ := hp1 cT
    refine lv_goto (tgt := 1636) hx hb dL_law_1089 (by decide) ?_
    exact KK _ _ _ _ _ ⟨L1, f1, Lm, fm1, fo1, fd, lo, ra, ar, ma, n, km, mn, wk, po, rr, _, h0, h1, h2, h3, h4, h5, h6, h7, h8, h9, hLw2, hq, hm1, hmr1, hI.same⟩ (by omega) (by omega) (lv_sub hl [2, 3, 4, 5, 6, 7] rfl)
  · simp only [if_pos cT] at hm1 hmr1
    obtain ⟨hv, ra2, ar2, hS⟩ := hp0 cT
    refine lv_aload_n hx hb dL_law_1077 rfl (lv_at hl 4 rfl) ?_
    refine lv_iconst (v := 0) hx hb dL_law_1078 (by decide) ?_
    refine lw_lald hx hb hK hLw2 dL_law_1079 ?_
    rw [hv]
    refine lv_iload hx hb dL_law_1080 (lv_at hl 0 rfl) ?_
    refine lv_i2l (v := (if (cwC rr n wk) = 0 then (totW rr n po wk 5) else 0).toInt64) hx hb dL_law_1082 rfl ?_
    refine W.lcmp hx hb dL_law_1083 ?_
    rw [if_pos cT, lg_cmp_self]
    refine lv_if_eq (tgt := 1089) hx hb dL_law_1084 (by decide) (fun _ => ?_) (fun z => absurd rfl z)
    refine lv_goto (tgt := 1636) hx hb dL_law_1089 (by decide) ?_
    exact KK _ _ _ _ _ ⟨L1, f1, Lm, fm1, fo1, fd, lo, ra2, ar2, ma, _, _, _, _, _, _, _, h0, h1, h2, h3, h4, h5, h6, h7, h8, h9, hLw2, hS, hm1, hmr1, hI.same⟩ (by omega) (by omega) (lv_sub hl [2, 3, 4, 5, 6, 7] rfl)
set_option maxHeartbeats 4000000 in
set_option maxRecDepth 100000 in
theorem lw_earnings (l : Launch) {G : wy_G} {p : Program} {e : Env} {s : State} {m : MethodId} {below : List Frame} {meth : Method} {c : Code} {H : Heap} {locs : List Loc} {cells slots b N ox om oo od t i : Nat} {xs : Nat → Int32} {Q : State → Prop} {ls : Array Slot} {xi : Int32} (C0 : lwC G p l s m meth c b N xs) (hW : lwW G s ox om oo od t H locs) (hit : i = 5 * t) (hiN : i + 5 ≤ N) (hN : N ≤ 2560) (hl : lv_has ls 8 [(5, .int xi), (4, .ref od), (3, .ref oo), (2, .ref om), (1, .ref ox), (0, .ref b)]) (hxi : xi = nI i) (hc : cells ≤ 100 + 10 * t) (hsl : slots ≤ 6000 + 200 * t) (KK : ∀ (H1 : Heap) (locs1 : List Loc) (cells1 slots1 : Nat) (ls1 : Array Slot), lwW G s ox om oo od (t + 1) H1 locs1 → cells1 ≤ 100 + 10 * (t + 1) → slots1 ≤ 6000 + 200 * (t + 1) → lv_has ls1 8 [(5, .int xi), (4, .ref od), (3, .ref oo), (2, .ref om), (1, .ref ox), (0, .ref b)] → W p l e room_1 s m #[.ref b] below meth c H1 locs1 cells1 slots1 Q (F0 m 1636 ls1 [])) : W p l e room_1 s m #[.ref b] below meth c H locs cells slots Q (F0 m 1105 ls []) := by
  obtain ⟨hx, hb, hml, hown, hts, hX, hbl, hK, hE, hZ, hNc, hnt⟩ := C0
  obtain ⟨L, f, Lm, fm, fo, fd, lo, ra, ar, ma, n, km, mn, wk, po, rr, th, g0, g1, g2, g3, g4, g5, g6, g7, g8, g9, hLw, hq, hm0, hmr, hI⟩ := hW
  have hA : ∀ q, s.heap.size ≤ q → lwA s q := fun q h => h
  have ht1 : t + 1 ≤ 512 := by omega
  refine lv_aload_n hx hb dL_law_1105 rfl (lv_at hl 4 rfl) ?_
  refine lv_aload_n hx hb dL_law_1106 rfl (lv_at hl 5 rfl) ?_
  refine lv_iload hx hb dL_law_1107 (lv_at hl 0 rfl) ?_
  refine lv_iconst (v := 1) hx hb dL_law_1109 (by decide) ?_
  refine lv_iadd hx hb dL_law_1110 ?_
  refine lv_topi (fun x_1 ex_1 => ?_)
  have nx_1 : x_1 = nI (i + 1) := ex_1.trans ((congr (congrArg (fun u v : Int32 => u + v) hxi) (rfl : (1 : Int32) = nI 1)).trans (nI_add _ _))
  refine lw_sld (i := i) (k := 1) hx hb hX hbl hLw.1.2.2 nx_1 (by omega) hN dL_law_1111 ?_
  refine lv_aload_n hx hb dL_law_1112 rfl (lv_at hl 5 rfl) ?_
  refine lv_iload hx hb dL_law_1113 (lv_at hl 0 rfl) ?_
  refine lv_iconst (v := 2) hx hb dL_law_1115 (by decide) ?_
  refine lv_iadd hx hb dL_law_1116 ?_
  refine lv_topi (fun x_2 ex_2 => ?_)
  have nx_2 : x_2 = nI (i + 2) := ex_2.trans ((congr (congrArg (fun u v : Int32 => u + v) hxi) (rfl : (2 : Int32) = nI 2)).trans (nI_add _ _))
  refine lw_sld (i := i) (k := 2) hx hb hX hbl hLw.1.2.2 nx_2 (by omega) hN dL_law_1117 ?_
  refine lv_aload_n hx hb dL_law_1118 rfl (lv_at hl 2 rfl) ?_
  refine wL_callO (vx_runSX (As := [.ref ox, .int (xs (i + 1)), .int (xs (i + 2)), .ref oo]) (rest := []) ⟨hx, hb, hml, hown, hts⟩ (m_L_earnings l hnt hq (xs (i + 1)) (xs (i + 2))) (vx_cwSW 4 hts gL_law_L_earnings rfl rfl rfl (by decide +kernel) ⟨Nat.le_of_ble_eq_true rfl, Nat.le_of_ble_eq_true rfl⟩) (wL_preO hK hE hZ hNc hLw hA) rfl rfl hl.1 rfl (lv_room (Nat.le_of_ble_eq_true rfl)) dL_law_1119 ⟨(show cells + 2 ≤ 601024 by omega), (show slots + 12 ≤ 7293034 by omega)⟩) hLw hA (fun C1 L1 f1 fo1 H locs hp hLw1 => ?_)
  obtain ⟨rfl, hp0, hp1⟩ := hp
  refine lv_istore (lv' := [(6, .int (ewC wk (xs (i + 1)) (xs (i + 2)))), (5, .int xi), (4, .ref od), (3, .ref oo), (2, .ref om), (1, .ref ox), (0, .ref b)]) hx hb dL_law_1122 hl (by decide) rfl (fun ls hl => ?_)
  refine lv_aload_n hx hb dL_law_1124 rfl (lv_at hl 4 rfl) ?_
  refine lv_aload_n hx hb dL_law_1125 rfl (lv_at hl 6 rfl) ?_
  refine lv_iload hx hb dL_law_1126 (lv_at hl 1 rfl) ?_
  refine lv_iconst (v := 1) hx hb dL_law_1128 (by decide) ?_
  refine lv_iadd hx hb dL_law_1129 ?_
  refine lv_topi (fun x_3 ex_3 => ?_)
  have nx_3 : x_3 = nI (i + 1) := ex_3.trans ((congr (congrArg (fun u v : Int32 => u + v) hxi) (rfl : (1 : Int32) = nI 1)).trans (nI_add _ _))
  refine lw_sld (i := i) (k := 1) hx hb hX hbl hLw1.1.2.2 nx_3 (by omega) hN dL_law_1130 ?_
  refine lv_aload_n hx hb dL_law_1131 rfl (lv_at hl 6 rfl) ?_
  refine lv_iload hx hb dL_law_1132 (lv_at hl 1 rfl) ?_
  refine lv_iconst (v := 2) hx hb dL_law_1134 (by decide) ?_
  refine lv_iadd hx hb dL_law_1135 ?_
  refine lv_topi (fun x_4 ex_4 => ?_)
  have nx_4 : x_4 = nI (i + 2) := ex_4.trans ((congr (congrArg (fun u v : Int32 => u + v) hxi) (rfl : (2 : Int32) = nI 2)).trans (nI_add _ _))
  refine lw_sld (i := i) (k := 2) hx hb hX hbl hLw1.1.2.2 nx_4 (by omega) hN dL_law_1136 ?_
  refine wL_callM (va_runV (As := [.int (xs (i + 1)), .int (xs (i + 2))]) (rest := []) ⟨hx, hb, hml, hown, hts⟩ (m_X2_earnings l hm0 hmr hI.1 ht1 (xs (i + 1)) (xs (i + 2))) (cwV 2 hts gL_law_X2_earnings rfl rfl rfl (by decide +kernel) ⟨Nat.le_of_ble_eq_true rfl, Nat.le_of_ble_eq_true rfl⟩) (wy_pVW hK hLw1.2.1 hm0.1 rfl) rfl rfl hl.1 rfl (lv_room (Nat.le_of_ble_eq_true rfl)) dL_law_1137 ⟨(show cells + 2 + 0 ≤ 601024 by omega), (show slots + 12 + 0 ≤ 7293034 by omega)⟩) hLw1 hA (fun r L9 f9 h9 => h9.2.1) (fun r1 fm1 H locs hpm hLw2 => ?_)
  obtain ⟨er, -, h0, h1, h2, h3, h4, h5, h6, h7, h8, h9, hm1, hmr1⟩ := hpm
  subst er
  refine lv_istore (lv' := [(7, .int (if (ewC wk (xs (i + 1)) (xs (i + 2))) = 0 then (earnS rr n (xs (i + 1)) (xs (i + 2))) else 0)), (6, .int (ewC wk (xs (i + 1)) (xs (i + 2)))), (5, .int xi), (4, .ref od), (3, .ref oo), (2, .ref om), (1, .ref ox), (0, .ref b)]) hx hb dL_law_1140 hl (by decide) rfl (fun ls hl => ?_)
  refine lv_aload_n hx hb dL_law_1142 rfl (lv_at hl 5 rfl) ?_
  refine vp_callSi (W.runV (As := []) (rest := []) ⟨hx, hb, hml, hown, hts⟩ (m_X2_thrown0 l hm1) (cwV 0 hts gL_law_X2_thrown rfl rfl rfl (by decide +kernel) ⟨Nat.le_of_ble_eq_true rfl, Nat.le_of_ble_eq_true rfl⟩) (wy_pVR hK hLw2.2.1.1 hm1.1 rfl) rfl rfl hl.1 rfl (lv_room (Nat.le_of_ble_eq_true rfl)) dL_law_1143 ⟨(show cells + 2 + 0 + 0 ≤ 601024 by omega), (show slots + 12 + 0 + 0 ≤ 7293034 by omega)⟩) (fun r2 er2 => ?_)
  subst er2
  refine lv_iload hx hb dL_law_1146 (lv_at hl 1 rfl) ?_
  refine lv_icmp_eq (tgt := 1153) hx hb dL_law_1148 (by decide) (fun _ => ?_) (fun z => absurd rfl z)
  refine lv_iload hx hb dL_law_1153 (lv_at hl 1 rfl) ?_
  refine lv_if_ne (tgt := 1170) hx hb dL_law_1155 (by decide) (fun cT => ?_) (fun cT => ?_)
  · simp only [if_neg cT] at hm1 hmr1
    obtain ⟨rfl, rfl⟩ := hp1 cT
    refine lv_goto (tgt := 1636) hx hb dL_law_1170 (by decide) ?_
    exact KK _ _ _ _ _ ⟨L1, f1, Lm, fm1, fo1, fd, lo, ra, ar, ma, n, km, mn, wk, po, rr, _, h0, h1, h2, h3, h4, h5, h6, h7, h8, h9, hLw2, hq, hm1, hmr1, hI.same⟩ (by omega) (by omega) (lv_sub hl [2, 3, 4, 5, 6, 7] rfl)
  · simp only [if_pos cT] at hm1 hmr1
    obtain ⟨hv, ra2, ar2, hS⟩ := hp0 cT
    refine lv_aload_n hx hb dL_law_1158 rfl (lv_at hl 4 rfl) ?_
    refine lv_iconst (v := 0) hx hb dL_law_1159 (by decide) ?_
    refine lw_lald hx hb hK hLw2 dL_law_1160 ?_
    rw [hv]
    refine lv_iload hx hb dL_law_1161 (lv_at hl 0 rfl) ?_
    refine lv_i2l (v := (if (ewC wk (xs (i + 1)) (xs (i + 2))) = 0 then (earnS rr n (xs (i + 1)) (xs (i + 2))) else 0).toInt64) hx hb dL_law_1163 rfl ?_
    refine W.lcmp hx hb dL_law_1164 ?_
    rw [if_pos cT, lg_cmp_self]
    refine lv_if_eq (tgt := 1170) hx hb dL_law_1165 (by decide) (fun _ => ?_) (fun z => absurd rfl z)
    refine lv_goto (tgt := 1636) hx hb dL_law_1170 (by decide) ?_
    exact KK _ _ _ _ _ ⟨L1, f1, Lm, fm1, fo1, fd, lo, ra2, ar2, ma, _, _, _, _, _, _, _, h0, h1, h2, h3, h4, h5, h6, h7, h8, h9, hLw2, hS, hm1, hmr1, hI.same⟩ (by omega) (by omega) (lv_sub hl [2, 3, 4, 5, 6, 7] rfl)
set_option maxHeartbeats 4000000 in
set_option maxRecDepth 100000 in
theorem lw_topUp (l : Launch) {G : wy_G} {p : Program} {e : Env} {s : State} {m : MethodId} {below : List Frame} {meth : Method} {c : Code} {H : Heap} {locs : List Loc} {cells slots b N ox om oo od t i : Nat} {xs : Nat → Int32} {Q : State → Prop} {ls : Array Slot} {xi : Int32} (C0 : lwC G p l s m meth c b N xs) (hW : lwW G s ox om oo od t H locs) (hit : i = 5 * t) (hiN : i + 5 ≤ N) (hN : N ≤ 2560) (hl : lv_has ls 8 [(5, .int xi), (4, .ref od), (3, .ref oo), (2, .ref om), (1, .ref ox), (0, .ref b)]) (hxi : xi = nI i) (hc : cells ≤ 100 + 10 * t) (hsl : slots ≤ 6000 + 200 * t) (KK : ∀ (H1 : Heap) (locs1 : List Loc) (cells1 slots1 : Nat) (ls1 : Array Slot), lwW G s ox om oo od (t + 1) H1 locs1 → cells1 ≤ 100 + 10 * (t + 1) → slots1 ≤ 6000 + 200 * (t + 1) → lv_has ls1 8 [(5, .int xi), (4, .ref od), (3, .ref oo), (2, .ref om), (1, .ref ox), (0, .ref b)] → W p l e room_1 s m #[.ref b] below meth c H1 locs1 cells1 slots1 Q (F0 m 1636 ls1 [])) : W p l e room_1 s m #[.ref b] below meth c H locs cells slots Q (F0 m 1173 ls []) := by
  obtain ⟨hx, hb, hml, hown, hts, hX, hbl, hK, hE, hZ, hNc, hnt⟩ := C0
  obtain ⟨L, f, Lm, fm, fo, fd, lo, ra, ar, ma, n, km, mn, wk, po, rr, th, g0, g1, g2, g3, g4, g5, g6, g7, g8, g9, hLw, hq, hm0, hmr, hI⟩ := hW
  have hA : ∀ q, s.heap.size ≤ q → lwA s q := fun q h => h
  have ht1 : t + 1 ≤ 512 := by omega
  refine lv_aload_n hx hb dL_law_1173 rfl (lv_at hl 4 rfl) ?_
  refine lv_aload_n hx hb dL_law_1174 rfl (lv_at hl 5 rfl) ?_
  refine lv_iload hx hb dL_law_1175 (lv_at hl 0 rfl) ?_
  refine lv_iconst (v := 1) hx hb dL_law_1177 (by decide) ?_
  refine lv_iadd hx hb dL_law_1178 ?_
  refine lv_topi (fun x_1 ex_1 => ?_)
  have nx_1 : x_1 = nI (i + 1) := ex_1.trans ((congr (congrArg (fun u v : Int32 => u + v) hxi) (rfl : (1 : Int32) = nI 1)).trans (nI_add _ _))
  refine lw_sld (i := i) (k := 1) hx hb hX hbl hLw.1.2.2 nx_1 (by omega) hN dL_law_1179 ?_
  refine lv_aload_n hx hb dL_law_1180 rfl (lv_at hl 5 rfl) ?_
  refine lv_iload hx hb dL_law_1181 (lv_at hl 0 rfl) ?_
  refine lv_iconst (v := 2) hx hb dL_law_1183 (by decide) ?_
  refine lv_iadd hx hb dL_law_1184 ?_
  refine lv_topi (fun x_2 ex_2 => ?_)
  have nx_2 : x_2 = nI (i + 2) := ex_2.trans ((congr (congrArg (fun u v : Int32 => u + v) hxi) (rfl : (2 : Int32) = nI 2)).trans (nI_add _ _))
  refine lw_sld (i := i) (k := 2) hx hb hX hbl hLw.1.2.2 nx_2 (by omega) hN dL_law_1185 ?_
  refine lv_aload_n hx hb dL_law_1186 rfl (lv_at hl 2 rfl) ?_
  refine wL_callO (vx_runSX (As := [.ref ox, .int (xs (i + 1)), .int (xs (i + 2)), .ref oo]) (rest := []) ⟨hx, hb, hml, hown, hts⟩ (m_L_topUp l hnt hq (xs (i + 1)) (xs (i + 2))) (vx_cwSW 4 hts gL_law_L_topUp rfl rfl rfl (by decide +kernel) ⟨Nat.le_of_ble_eq_true rfl, Nat.le_of_ble_eq_true rfl⟩) (wL_preO hK hE hZ hNc hLw hA) rfl rfl hl.1 rfl (lv_room (Nat.le_of_ble_eq_true rfl)) dL_law_1187 ⟨(show cells + 2 ≤ 601024 by omega), (show slots + 12 ≤ 7293034 by omega)⟩) hLw hA (fun C1 L1 f1 fo1 H locs hp hLw1 => ?_)
  obtain ⟨rfl, hp0, hp1⟩ := hp
  refine lv_istore (lv' := [(6, .int (ewC wk (xs (i + 1)) (xs (i + 2)))), (5, .int xi), (4, .ref od), (3, .ref oo), (2, .ref om), (1, .ref ox), (0, .ref b)]) hx hb dL_law_1190 hl (by decide) rfl (fun ls hl => ?_)
  refine lv_aload_n hx hb dL_law_1192 rfl (lv_at hl 4 rfl) ?_
  refine lv_aload_n hx hb dL_law_1193 rfl (lv_at hl 6 rfl) ?_
  refine lv_iload hx hb dL_law_1194 (lv_at hl 1 rfl) ?_
  refine lv_iconst (v := 1) hx hb dL_law_1196 (by decide) ?_
  refine lv_iadd hx hb dL_law_1197 ?_
  refine lv_topi (fun x_3 ex_3 => ?_)
  have nx_3 : x_3 = nI (i + 1) := ex_3.trans ((congr (congrArg (fun u v : Int32 => u + v) hxi) (rfl : (1 : Int32) = nI 1)).trans (nI_add _ _))
  refine lw_sld (i := i) (k := 1) hx hb hX hbl hLw1.1.2.2 nx_3 (by omega) hN dL_law_1198 ?_
  refine lv_aload_n hx hb dL_law_1199 rfl (lv_at hl 6 rfl) ?_
  refine lv_iload hx hb dL_law_1200 (lv_at hl 1 rfl) ?_
  refine lv_iconst (v := 2) hx hb dL_law_1202 (by decide) ?_
  refine lv_iadd hx hb dL_law_1203 ?_
  refine lv_topi (fun x_4 ex_4 => ?_)
  have nx_4 : x_4 = nI (i + 2) := ex_4.trans ((congr (congrArg (fun u v : Int32 => u + v) hxi) (rfl : (2 : Int32) = nI 2)).trans (nI_add _ _))
  refine lw_sld (i := i) (k := 2) hx hb hX hbl hLw1.1.2.2 nx_4 (by omega) hN dL_law_1204 ?_
  refine wL_callM (va_runV (As := [.int (xs (i + 1)), .int (xs (i + 2))]) (rest := []) ⟨hx, hb, hml, hown, hts⟩ (m_X2_topUp l hm0 hmr hI.1 ht1 (xs (i + 1)) (xs (i + 2))) (cwV 2 hts gL_law_X2_topUp rfl rfl rfl (by decide +kernel) ⟨Nat.le_of_ble_eq_true rfl, Nat.le_of_ble_eq_true rfl⟩) (wy_pVW hK hLw1.2.1 hm0.1 rfl) rfl rfl hl.1 rfl (lv_room (Nat.le_of_ble_eq_true rfl)) dL_law_1205 ⟨(show cells + 2 + 0 ≤ 601024 by omega), (show slots + 12 + 0 ≤ 7293034 by omega)⟩) hLw1 hA (fun r L9 f9 h9 => h9.2.1) (fun r1 fm1 H locs hpm hLw2 => ?_)
  obtain ⟨er, -, h0, h1, h2, h3, h4, h5, h6, h7, h8, h9, hm1, hmr1⟩ := hpm
  subst er
  refine lv_istore (lv' := [(7, .int (if (ewC wk (xs (i + 1)) (xs (i + 2))) = 0 then (topS rr n (xs (i + 1)) (xs (i + 2))) else 0)), (6, .int (ewC wk (xs (i + 1)) (xs (i + 2)))), (5, .int xi), (4, .ref od), (3, .ref oo), (2, .ref om), (1, .ref ox), (0, .ref b)]) hx hb dL_law_1208 hl (by decide) rfl (fun ls hl => ?_)
  refine lv_aload_n hx hb dL_law_1210 rfl (lv_at hl 5 rfl) ?_
  refine vp_callSi (W.runV (As := []) (rest := []) ⟨hx, hb, hml, hown, hts⟩ (m_X2_thrown0 l hm1) (cwV 0 hts gL_law_X2_thrown rfl rfl rfl (by decide +kernel) ⟨Nat.le_of_ble_eq_true rfl, Nat.le_of_ble_eq_true rfl⟩) (wy_pVR hK hLw2.2.1.1 hm1.1 rfl) rfl rfl hl.1 rfl (lv_room (Nat.le_of_ble_eq_true rfl)) dL_law_1211 ⟨(show cells + 2 + 0 + 0 ≤ 601024 by omega), (show slots + 12 + 0 + 0 ≤ 7293034 by omega)⟩) (fun r2 er2 => ?_)
  subst er2
  refine lv_iload hx hb dL_law_1214 (lv_at hl 1 rfl) ?_
  refine lv_icmp_eq (tgt := 1221) hx hb dL_law_1216 (by decide) (fun _ => ?_) (fun z => absurd rfl z)
  refine lv_iload hx hb dL_law_1221 (lv_at hl 1 rfl) ?_
  refine lv_if_ne (tgt := 1238) hx hb dL_law_1223 (by decide) (fun cT => ?_) (fun cT => ?_)
  · simp only [if_neg cT] at hm1 hmr1
    obtain ⟨rfl, rfl⟩ := hp1 cT
    refine lv_goto (tgt := 1636) hx hb dL_law_1238 (by decide) ?_
    exact KK _ _ _ _ _ ⟨L1, f1, Lm, fm1, fo1, fd, lo, ra, ar, ma, n, km, mn, wk, po, rr, _, h0, h1, h2, h3, h4, h5, h6, h7, h8, h9, hLw2, hq, hm1, hmr1, hI.same⟩ (by omega) (by omega) (lv_sub hl [2, 3, 4, 5, 6, 7] rfl)
  · simp only [if_pos cT] at hm1 hmr1
    obtain ⟨hv, ra2, ar2, hS⟩ := hp0 cT
    refine lv_aload_n hx hb dL_law_1226 rfl (lv_at hl 4 rfl) ?_
    refine lv_iconst (v := 0) hx hb dL_law_1227 (by decide) ?_
    refine lw_lald hx hb hK hLw2 dL_law_1228 ?_
    rw [hv]
    refine lv_iload hx hb dL_law_1229 (lv_at hl 0 rfl) ?_
    refine lv_i2l (v := (if (ewC wk (xs (i + 1)) (xs (i + 2))) = 0 then (topS rr n (xs (i + 1)) (xs (i + 2))) else 0).toInt64) hx hb dL_law_1231 rfl ?_
    refine W.lcmp hx hb dL_law_1232 ?_
    rw [if_pos cT, lg_cmp_self]
    refine lv_if_eq (tgt := 1238) hx hb dL_law_1233 (by decide) (fun _ => ?_) (fun z => absurd rfl z)
    refine lv_goto (tgt := 1636) hx hb dL_law_1238 (by decide) ?_
    exact KK _ _ _ _ _ ⟨L1, f1, Lm, fm1, fo1, fd, lo, ra2, ar2, ma, _, _, _, _, _, _, _, h0, h1, h2, h3, h4, h5, h6, h7, h8, h9, hLw2, hS, hm1, hmr1, hI.same⟩ (by omega) (by omega) (lv_sub hl [2, 3, 4, 5, 6, 7] rfl)
set_option maxHeartbeats 4000000 in
set_option maxRecDepth 100000 in
theorem lw_bonus (l : Launch) {G : wy_G} {p : Program} {e : Env} {s : State} {m : MethodId} {below : List Frame} {meth : Method} {c : Code} {H : Heap} {locs : List Loc} {cells slots b N ox om oo od t i : Nat} {xs : Nat → Int32} {Q : State → Prop} {ls : Array Slot} {xi : Int32} (C0 : lwC G p l s m meth c b N xs) (hW : lwW G s ox om oo od t H locs) (hit : i = 5 * t) (hiN : i + 5 ≤ N) (hN : N ≤ 2560) (hl : lv_has ls 8 [(5, .int xi), (4, .ref od), (3, .ref oo), (2, .ref om), (1, .ref ox), (0, .ref b)]) (hxi : xi = nI i) (hc : cells ≤ 100 + 10 * t) (hsl : slots ≤ 6000 + 200 * t) (KK : ∀ (H1 : Heap) (locs1 : List Loc) (cells1 slots1 : Nat) (ls1 : Array Slot), lwW G s ox om oo od (t + 1) H1 locs1 → cells1 ≤ 100 + 10 * (t + 1) → slots1 ≤ 6000 + 200 * (t + 1) → lv_has ls1 8 [(5, .int xi), (4, .ref od), (3, .ref oo), (2, .ref om), (1, .ref ox), (0, .ref b)] → W p l e room_1 s m #[.ref b] below meth c H1 locs1 cells1 slots1 Q (F0 m 1636 ls1 [])) : W p l e room_1 s m #[.ref b] below meth c H locs cells slots Q (F0 m 1241 ls []) := by
  obtain ⟨hx, hb, hml, hown, hts, hX, hbl, hK, hE, hZ, hNc, hnt⟩ := C0
  obtain ⟨L, f, Lm, fm, fo, fd, lo, ra, ar, ma, n, km, mn, wk, po, rr, th, g0, g1, g2, g3, g4, g5, g6, g7, g8, g9, hLw, hq, hm0, hmr, hI⟩ := hW
  have hA : ∀ q, s.heap.size ≤ q → lwA s q := fun q h => h
  have ht1 : t + 1 ≤ 512 := by omega
  refine lv_aload_n hx hb dL_law_1241 rfl (lv_at hl 4 rfl) ?_
  refine lv_aload_n hx hb dL_law_1242 rfl (lv_at hl 5 rfl) ?_
  refine lv_iload hx hb dL_law_1243 (lv_at hl 0 rfl) ?_
  refine lv_iconst (v := 1) hx hb dL_law_1245 (by decide) ?_
  refine lv_iadd hx hb dL_law_1246 ?_
  refine lv_topi (fun x_1 ex_1 => ?_)
  have nx_1 : x_1 = nI (i + 1) := ex_1.trans ((congr (congrArg (fun u v : Int32 => u + v) hxi) (rfl : (1 : Int32) = nI 1)).trans (nI_add _ _))
  refine lw_sld (i := i) (k := 1) hx hb hX hbl hLw.1.2.2 nx_1 (by omega) hN dL_law_1247 ?_
  refine lv_aload_n hx hb dL_law_1248 rfl (lv_at hl 5 rfl) ?_
  refine lv_iload hx hb dL_law_1249 (lv_at hl 0 rfl) ?_
  refine lv_iconst (v := 2) hx hb dL_law_1251 (by decide) ?_
  refine lv_iadd hx hb dL_law_1252 ?_
  refine lv_topi (fun x_2 ex_2 => ?_)
  have nx_2 : x_2 = nI (i + 2) := ex_2.trans ((congr (congrArg (fun u v : Int32 => u + v) hxi) (rfl : (2 : Int32) = nI 2)).trans (nI_add _ _))
  refine lw_sld (i := i) (k := 2) hx hb hX hbl hLw.1.2.2 nx_2 (by omega) hN dL_law_1253 ?_
  refine lv_aload_n hx hb dL_law_1254 rfl (lv_at hl 2 rfl) ?_
  refine wL_callO (vx_runSX (As := [.ref ox, .int (xs (i + 1)), .int (xs (i + 2)), .ref oo]) (rest := []) ⟨hx, hb, hml, hown, hts⟩ (m_L_bonus l hnt hq (xs (i + 1)) (xs (i + 2))) (vx_cwSW 4 hts gL_law_L_bonus rfl rfl rfl (by decide +kernel) ⟨Nat.le_of_ble_eq_true rfl, Nat.le_of_ble_eq_true rfl⟩) (wL_preO hK hE hZ hNc hLw hA) rfl rfl hl.1 rfl (lv_room (Nat.le_of_ble_eq_true rfl)) dL_law_1255 ⟨(show cells + 2 ≤ 601024 by omega), (show slots + 12 ≤ 7293034 by omega)⟩) hLw hA (fun C1 L1 f1 fo1 H locs hp hLw1 => ?_)
  obtain ⟨rfl, hp0, hp1⟩ := hp
  refine lv_istore (lv' := [(6, .int (ewC wk (xs (i + 1)) (xs (i + 2)))), (5, .int xi), (4, .ref od), (3, .ref oo), (2, .ref om), (1, .ref ox), (0, .ref b)]) hx hb dL_law_1258 hl (by decide) rfl (fun ls hl => ?_)
  refine lv_aload_n hx hb dL_law_1260 rfl (lv_at hl 4 rfl) ?_
  refine lv_aload_n hx hb dL_law_1261 rfl (lv_at hl 6 rfl) ?_
  refine lv_iload hx hb dL_law_1262 (lv_at hl 1 rfl) ?_
  refine lv_iconst (v := 1) hx hb dL_law_1264 (by decide) ?_
  refine lv_iadd hx hb dL_law_1265 ?_
  refine lv_topi (fun x_3 ex_3 => ?_)
  have nx_3 : x_3 = nI (i + 1) := ex_3.trans ((congr (congrArg (fun u v : Int32 => u + v) hxi) (rfl : (1 : Int32) = nI 1)).trans (nI_add _ _))
  refine lw_sld (i := i) (k := 1) hx hb hX hbl hLw1.1.2.2 nx_3 (by omega) hN dL_law_1266 ?_
  refine lv_aload_n hx hb dL_law_1267 rfl (lv_at hl 6 rfl) ?_
  refine lv_iload hx hb dL_law_1268 (lv_at hl 1 rfl) ?_
  refine lv_iconst (v := 2) hx hb dL_law_1270 (by decide) ?_
  refine lv_iadd hx hb dL_law_1271 ?_
  refine lv_topi (fun x_4 ex_4 => ?_)
  have nx_4 : x_4 = nI (i + 2) := ex_4.trans ((congr (congrArg (fun u v : Int32 => u + v) hxi) (rfl : (2 : Int32) = nI 2)).trans (nI_add _ _))
  refine lw_sld (i := i) (k := 2) hx hb hX hbl hLw1.1.2.2 nx_4 (by omega) hN dL_law_1272 ?_
  refine wL_callM (va_runV (As := [.int (xs (i + 1)), .int (xs (i + 2))]) (rest := []) ⟨hx, hb, hml, hown, hts⟩ (m_X2_bonus l hm0 hmr hI.1 ht1 (xs (i + 1)) (xs (i + 2))) (cwV 2 hts gL_law_X2_bonus rfl rfl rfl (by decide +kernel) ⟨Nat.le_of_ble_eq_true rfl, Nat.le_of_ble_eq_true rfl⟩) (wy_pVW hK hLw1.2.1 hm0.1 rfl) rfl rfl hl.1 rfl (lv_room (Nat.le_of_ble_eq_true rfl)) dL_law_1273 ⟨(show cells + 2 + 0 ≤ 601024 by omega), (show slots + 12 + 0 ≤ 7293034 by omega)⟩) hLw1 hA (fun r L9 f9 h9 => h9.2.1) (fun r1 fm1 H locs hpm hLw2 => ?_)
  obtain ⟨er, -, h0, h1, h2, h3, h4, h5, h6, h7, h8, h9, hm1, hmr1⟩ := hpm
  subst er
  refine lv_istore (lv' := [(7, .int (if (ewC wk (xs (i + 1)) (xs (i + 2))) = 0 then (bonS rr n (xs (i + 1)) (xs (i + 2))) else 0)), (6, .int (ewC wk (xs (i + 1)) (xs (i + 2)))), (5, .int xi), (4, .ref od), (3, .ref oo), (2, .ref om), (1, .ref ox), (0, .ref b)]) hx hb dL_law_1276 hl (by decide) rfl (fun ls hl => ?_)
  refine lv_aload_n hx hb dL_law_1278 rfl (lv_at hl 5 rfl) ?_
  refine vp_callSi (W.runV (As := []) (rest := []) ⟨hx, hb, hml, hown, hts⟩ (m_X2_thrown0 l hm1) (cwV 0 hts gL_law_X2_thrown rfl rfl rfl (by decide +kernel) ⟨Nat.le_of_ble_eq_true rfl, Nat.le_of_ble_eq_true rfl⟩) (wy_pVR hK hLw2.2.1.1 hm1.1 rfl) rfl rfl hl.1 rfl (lv_room (Nat.le_of_ble_eq_true rfl)) dL_law_1279 ⟨(show cells + 2 + 0 + 0 ≤ 601024 by omega), (show slots + 12 + 0 + 0 ≤ 7293034 by omega)⟩) (fun r2 er2 => ?_)
  subst er2
  refine lv_iload hx hb dL_law_1282 (lv_at hl 1 rfl) ?_
  refine lv_icmp_eq (tgt := 1289) hx hb dL_law_1284 (by decide) (fun _ => ?_) (fun z => absurd rfl z)
  refine lv_iload hx hb dL_law_1289 (lv_at hl 1 rfl) ?_
  refine lv_if_ne (tgt := 1306) hx hb dL_law_1291 (by decide) (fun cT => ?_) (fun cT => ?_)
  · simp only [if_neg cT] at hm1 hmr1
    obtain ⟨rfl, rfl⟩ := hp1 cT
    refine lv_goto (tgt := 1636) hx hb dL_law_1306 (by decide) ?_
    exact KK _ _ _ _ _ ⟨L1, f1, Lm, fm1, fo1, fd, lo, ra, ar, ma, n, km, mn, wk, po, rr, _, h0, h1, h2, h3, h4, h5, h6, h7, h8, h9, hLw2, hq, hm1, hmr1, hI.same⟩ (by omega) (by omega) (lv_sub hl [2, 3, 4, 5, 6, 7] rfl)
  · simp only [if_pos cT] at hm1 hmr1
    obtain ⟨hv, ra2, ar2, hS⟩ := hp0 cT
    refine lv_aload_n hx hb dL_law_1294 rfl (lv_at hl 4 rfl) ?_
    refine lv_iconst (v := 0) hx hb dL_law_1295 (by decide) ?_
    refine lw_lald hx hb hK hLw2 dL_law_1296 ?_
    rw [hv]
    refine lv_iload hx hb dL_law_1297 (lv_at hl 0 rfl) ?_
    refine lv_i2l (v := (if (ewC wk (xs (i + 1)) (xs (i + 2))) = 0 then (bonS rr n (xs (i + 1)) (xs (i + 2))) else 0).toInt64) hx hb dL_law_1299 rfl ?_
    refine W.lcmp hx hb dL_law_1300 ?_
    rw [if_pos cT, lg_cmp_self]
    refine lv_if_eq (tgt := 1306) hx hb dL_law_1301 (by decide) (fun _ => ?_) (fun z => absurd rfl z)
    refine lv_goto (tgt := 1636) hx hb dL_law_1306 (by decide) ?_
    exact KK _ _ _ _ _ ⟨L1, f1, Lm, fm1, fo1, fd, lo, ra2, ar2, ma, _, _, _, _, _, _, _, h0, h1, h2, h3, h4, h5, h6, h7, h8, h9, hLw2, hS, hm1, hmr1, hI.same⟩ (by omega) (by omega) (lv_sub hl [2, 3, 4, 5, 6, 7] rfl)
set_option maxHeartbeats 4000000 in
set_option maxRecDepth 100000 in
theorem lw_pay (l : Launch) {G : wy_G} {p : Program} {e : Env} {s : State} {m : MethodId} {below : List Frame} {meth : Method} {c : Code} {H : Heap} {locs : List Loc} {cells slots b N ox om oo od t i : Nat} {xs : Nat → Int32} {Q : State → Prop} {ls : Array Slot} {xi : Int32} (C0 : lwC G p l s m meth c b N xs) (hW : lwW G s ox om oo od t H locs) (hit : i = 5 * t) (hiN : i + 5 ≤ N) (hN : N ≤ 2560) (hl : lv_has ls 8 [(5, .int xi), (4, .ref od), (3, .ref oo), (2, .ref om), (1, .ref ox), (0, .ref b)]) (hxi : xi = nI i) (hc : cells ≤ 100 + 10 * t) (hsl : slots ≤ 6000 + 200 * t) (KK : ∀ (H1 : Heap) (locs1 : List Loc) (cells1 slots1 : Nat) (ls1 : Array Slot), lwW G s ox om oo od (t + 1) H1 locs1 → cells1 ≤ 100 + 10 * (t + 1) → slots1 ≤ 6000 + 200 * (t + 1) → lv_has ls1 8 [(5, .int xi), (4, .ref od), (3, .ref oo), (2, .ref om), (1, .ref ox), (0, .ref b)] → W p l e room_1 s m #[.ref b] below meth c H1 locs1 cells1 slots1 Q (F0 m 1636 ls1 [])) : W p l e room_1 s m #[.ref b] below meth c H locs cells slots Q (F0 m 1309 ls []) := by
  obtain ⟨hx, hb, hml, hown, hts, hX, hbl, hK, hE, hZ, hNc, hnt⟩ := C0
  obtain ⟨L, f, Lm, fm, fo, fd, lo, ra, ar, ma, n, km, mn, wk, po, rr, th, g0, g1, g2, g3, g4, g5, g6, g7, g8, g9, hLw, hq, hm0, hmr, hI⟩ := hW
  have hA : ∀ q, s.heap.size ≤ q → lwA s q := fun q h => h
  have ht1 : t + 1 ≤ 512 := by omega
  refine lv_aload_n hx hb dL_law_1309 rfl (lv_at hl 4 rfl) ?_
  refine lv_aload_n hx hb dL_law_1310 rfl (lv_at hl 5 rfl) ?_
  refine lv_iload hx hb dL_law_1311 (lv_at hl 0 rfl) ?_
  refine lv_iconst (v := 1) hx hb dL_law_1313 (by decide) ?_
  refine lv_iadd hx hb dL_law_1314 ?_
  refine lv_topi (fun x_1 ex_1 => ?_)
  have nx_1 : x_1 = nI (i + 1) := ex_1.trans ((congr (congrArg (fun u v : Int32 => u + v) hxi) (rfl : (1 : Int32) = nI 1)).trans (nI_add _ _))
  refine lw_sld (i := i) (k := 1) hx hb hX hbl hLw.1.2.2 nx_1 (by omega) hN dL_law_1315 ?_
  refine lv_aload_n hx hb dL_law_1316 rfl (lv_at hl 5 rfl) ?_
  refine lv_iload hx hb dL_law_1317 (lv_at hl 0 rfl) ?_
  refine lv_iconst (v := 2) hx hb dL_law_1319 (by decide) ?_
  refine lv_iadd hx hb dL_law_1320 ?_
  refine lv_topi (fun x_2 ex_2 => ?_)
  have nx_2 : x_2 = nI (i + 2) := ex_2.trans ((congr (congrArg (fun u v : Int32 => u + v) hxi) (rfl : (2 : Int32) = nI 2)).trans (nI_add _ _))
  refine lw_sld (i := i) (k := 2) hx hb hX hbl hLw.1.2.2 nx_2 (by omega) hN dL_law_1321 ?_
  refine lv_aload_n hx hb dL_law_1322 rfl (lv_at hl 2 rfl) ?_
  refine wL_callO (vx_runSX (As := [.ref ox, .int (xs (i + 1)), .int (xs (i + 2)), .ref oo]) (rest := []) ⟨hx, hb, hml, hown, hts⟩ (m_L_pay l hnt hq (xs (i + 1)) (xs (i + 2))) (vx_cwSW 4 hts gL_law_L_pay rfl rfl rfl (by decide +kernel) ⟨Nat.le_of_ble_eq_true rfl, Nat.le_of_ble_eq_true rfl⟩) (wL_preO hK hE hZ hNc hLw hA) rfl rfl hl.1 rfl (lv_room (Nat.le_of_ble_eq_true rfl)) dL_law_1323 ⟨(show cells + 2 ≤ 601024 by omega), (show slots + 12 ≤ 7293034 by omega)⟩) hLw hA (fun C1 L1 f1 fo1 H locs hp hLw1 => ?_)
  obtain ⟨rfl, hp0, hp1⟩ := hp
  refine lv_istore (lv' := [(6, .int (ewC wk (xs (i + 1)) (xs (i + 2)))), (5, .int xi), (4, .ref od), (3, .ref oo), (2, .ref om), (1, .ref ox), (0, .ref b)]) hx hb dL_law_1326 hl (by decide) rfl (fun ls hl => ?_)
  refine lv_aload_n hx hb dL_law_1328 rfl (lv_at hl 4 rfl) ?_
  refine lv_aload_n hx hb dL_law_1329 rfl (lv_at hl 6 rfl) ?_
  refine lv_iload hx hb dL_law_1330 (lv_at hl 1 rfl) ?_
  refine lv_iconst (v := 1) hx hb dL_law_1332 (by decide) ?_
  refine lv_iadd hx hb dL_law_1333 ?_
  refine lv_topi (fun x_3 ex_3 => ?_)
  have nx_3 : x_3 = nI (i + 1) := ex_3.trans ((congr (congrArg (fun u v : Int32 => u + v) hxi) (rfl : (1 : Int32) = nI 1)).trans (nI_add _ _))
  refine lw_sld (i := i) (k := 1) hx hb hX hbl hLw1.1.2.2 nx_3 (by omega) hN dL_law_1334 ?_
  refine lv_aload_n hx hb dL_law_1335 rfl (lv_at hl 6 rfl) ?_
  refine lv_iload hx hb dL_law_1336 (lv_at hl 1 rfl) ?_
  refine lv_iconst (v := 2) hx hb dL_law_1338 (by decide) ?_
  refine lv_iadd hx hb dL_law_1339 ?_
  refine lv_topi (fun x_4 ex_4 => ?_)
  have nx_4 : x_4 = nI (i + 2) := ex_4.trans ((congr (congrArg (fun u v : Int32 => u + v) hxi) (rfl : (2 : Int32) = nI 2)).trans (nI_add _ _))
  refine lw_sld (i := i) (k := 2) hx hb hX hbl hLw1.1.2.2 nx_4 (by omega) hN dL_law_1340 ?_
  refine wL_callM (va_runV (As := [.int (xs (i + 1)), .int (xs (i + 2))]) (rest := []) ⟨hx, hb, hml, hown, hts⟩ (m_X2_pay l hm0 hmr hI.1 ht1 (xs (i + 1)) (xs (i + 2))) (cwV 2 hts gL_law_X2_pay rfl rfl rfl (by decide +kernel) ⟨Nat.le_of_ble_eq_true rfl, Nat.le_of_ble_eq_true rfl⟩) (wy_pVW hK hLw1.2.1 hm0.1 rfl) rfl rfl hl.1 rfl (lv_room (Nat.le_of_ble_eq_true rfl)) dL_law_1341 ⟨(show cells + 2 + 0 ≤ 601024 by omega), (show slots + 12 + 0 ≤ 7293034 by omega)⟩) hLw1 hA (fun r L9 f9 h9 => h9.2.1) (fun r1 fm1 H locs hpm hLw2 => ?_)
  obtain ⟨er, -, h0, h1, h2, h3, h4, h5, h6, h7, h8, h9, hm1, hmr1⟩ := hpm
  subst er
  refine lv_istore (lv' := [(7, .int (if (ewC wk (xs (i + 1)) (xs (i + 2))) = 0 then (payS rr n (xs (i + 1)) (xs (i + 2))) else 0)), (6, .int (ewC wk (xs (i + 1)) (xs (i + 2)))), (5, .int xi), (4, .ref od), (3, .ref oo), (2, .ref om), (1, .ref ox), (0, .ref b)]) hx hb dL_law_1344 hl (by decide) rfl (fun ls hl => ?_)
  refine lv_aload_n hx hb dL_law_1346 rfl (lv_at hl 5 rfl) ?_
  refine vp_callSi (W.runV (As := []) (rest := []) ⟨hx, hb, hml, hown, hts⟩ (m_X2_thrown0 l hm1) (cwV 0 hts gL_law_X2_thrown rfl rfl rfl (by decide +kernel) ⟨Nat.le_of_ble_eq_true rfl, Nat.le_of_ble_eq_true rfl⟩) (wy_pVR hK hLw2.2.1.1 hm1.1 rfl) rfl rfl hl.1 rfl (lv_room (Nat.le_of_ble_eq_true rfl)) dL_law_1347 ⟨(show cells + 2 + 0 + 0 ≤ 601024 by omega), (show slots + 12 + 0 + 0 ≤ 7293034 by omega)⟩) (fun r2 er2 => ?_)
  subst er2
  refine lv_iload hx hb dL_law_1350 (lv_at hl 1 rfl) ?_
  refine lv_icmp_eq (tgt := 1357) hx hb dL_law_1352 (by decide) (fun _ => ?_) (fun z => absurd rfl z)
  refine lv_iload hx hb dL_law_1357 (lv_at hl 1 rfl) ?_
  refine lv_if_ne (tgt := 1374) hx hb dL_law_1359 (by decide) (fun cT => ?_) (fun cT => ?_)
  · simp only [if_neg cT] at hm1 hmr1
    obtain ⟨rfl, rfl⟩ := hp1 cT
    refine lv_goto (tgt := 1636) hx hb dL_law_1374 (by decide) ?_
    exact KK _ _ _ _ _ ⟨L1, f1, Lm, fm1, fo1, fd, lo, ra, ar, ma, n, km, mn, wk, po, rr, _, h0, h1, h2, h3, h4, h5, h6, h7, h8, h9, hLw2, hq, hm1, hmr1, hI.same⟩ (by omega) (by omega) (lv_sub hl [2, 3, 4, 5, 6, 7] rfl)
  · simp only [if_pos cT] at hm1 hmr1
    obtain ⟨hv, ra2, ar2, hS⟩ := hp0 cT
    refine lv_aload_n hx hb dL_law_1362 rfl (lv_at hl 4 rfl) ?_
    refine lv_iconst (v := 0) hx hb dL_law_1363 (by decide) ?_
    refine lw_lald hx hb hK hLw2 dL_law_1364 ?_
    rw [hv]
    refine lv_iload hx hb dL_law_1365 (lv_at hl 0 rfl) ?_
    refine lv_i2l (v := (if (ewC wk (xs (i + 1)) (xs (i + 2))) = 0 then (payS rr n (xs (i + 1)) (xs (i + 2))) else 0).toInt64) hx hb dL_law_1367 rfl ?_
    refine W.lcmp hx hb dL_law_1368 ?_
    rw [if_pos cT, lg_cmp_self]
    refine lv_if_eq (tgt := 1374) hx hb dL_law_1369 (by decide) (fun _ => ?_) (fun z => absurd rfl z)
    refine lv_goto (tgt := 1636) hx hb dL_law_1374 (by decide) ?_
    exact KK _ _ _ _ _ ⟨L1, f1, Lm, fm1, fo1, fd, lo, ra2, ar2, ma, _, _, _, _, _, _, _, h0, h1, h2, h3, h4, h5, h6, h7, h8, h9, hLw2, hS, hm1, hmr1, hI.same⟩ (by omega) (by omega) (lv_sub hl [2, 3, 4, 5, 6, 7] rfl)
set_option maxHeartbeats 4000000 in
set_option maxRecDepth 100000 in
theorem lw_balance (l : Launch) {G : wy_G} {p : Program} {e : Env} {s : State} {m : MethodId} {below : List Frame} {meth : Method} {c : Code} {H : Heap} {locs : List Loc} {cells slots b N ox om oo od t i : Nat} {xs : Nat → Int32} {Q : State → Prop} {ls : Array Slot} {xi : Int32} (C0 : lwC G p l s m meth c b N xs) (hW : lwW G s ox om oo od t H locs) (hit : i = 5 * t) (hiN : i + 5 ≤ N) (hN : N ≤ 2560) (hl : lv_has ls 8 [(5, .int xi), (4, .ref od), (3, .ref oo), (2, .ref om), (1, .ref ox), (0, .ref b)]) (hxi : xi = nI i) (hc : cells ≤ 100 + 10 * t) (hsl : slots ≤ 6000 + 200 * t) (KK : ∀ (H1 : Heap) (locs1 : List Loc) (cells1 slots1 : Nat) (ls1 : Array Slot), lwW G s ox om oo od (t + 1) H1 locs1 → cells1 ≤ 100 + 10 * (t + 1) → slots1 ≤ 6000 + 200 * (t + 1) → lv_has ls1 8 [(5, .int xi), (4, .ref od), (3, .ref oo), (2, .ref om), (1, .ref ox), (0, .ref b)] → W p l e room_1 s m #[.ref b] below meth c H1 locs1 cells1 slots1 Q (F0 m 1636 ls1 [])) : W p l e room_1 s m #[.ref b] below meth c H locs cells slots Q (F0 m 1377 ls []) := by
  obtain ⟨hx, hb, hml, hown, hts, hX, hbl, hK, hE, hZ, hNc, hnt⟩ := C0
  obtain ⟨L, f, Lm, fm, fo, fd, lo, ra, ar, ma, n, km, mn, wk, po, rr, th, g0, g1, g2, g3, g4, g5, g6, g7, g8, g9, hLw, hq, hm0, hmr, hI⟩ := hW
  have hA : ∀ q, s.heap.size ≤ q → lwA s q := fun q h => h
  have ht1 : t + 1 ≤ 512 := by omega
  refine lv_aload_n hx hb dL_law_1377 rfl (lv_at hl 4 rfl) ?_
  refine lv_aload_n hx hb dL_law_1378 rfl (lv_at hl 5 rfl) ?_
  refine lv_iload hx hb dL_law_1379 (lv_at hl 0 rfl) ?_
  refine lv_iconst (v := 1) hx hb dL_law_1381 (by decide) ?_
  refine lv_iadd hx hb dL_law_1382 ?_
  refine lv_topi (fun x_1 ex_1 => ?_)
  have nx_1 : x_1 = nI (i + 1) := ex_1.trans ((congr (congrArg (fun u v : Int32 => u + v) hxi) (rfl : (1 : Int32) = nI 1)).trans (nI_add _ _))
  refine lw_sld (i := i) (k := 1) hx hb hX hbl hLw.1.2.2 nx_1 (by omega) hN dL_law_1383 ?_
  refine lv_aload_n hx hb dL_law_1384 rfl (lv_at hl 2 rfl) ?_
  refine wL_callO (vx_runSX (As := [.ref ox, .int (xs (i + 1)), .ref oo]) (rest := []) ⟨hx, hb, hml, hown, hts⟩ (m_L_balance l hnt hq (xs (i + 1))) (vx_cwSW 3 hts gL_law_L_balance rfl rfl rfl (by decide +kernel) ⟨Nat.le_of_ble_eq_true rfl, Nat.le_of_ble_eq_true rfl⟩) (wL_preO hK hE hZ hNc hLw hA) rfl rfl hl.1 rfl (lv_room (Nat.le_of_ble_eq_true rfl)) dL_law_1385 ⟨(show cells + 1 ≤ 601024 by omega), (show slots + 6 ≤ 7293034 by omega)⟩) hLw hA (fun C1 L1 f1 fo1 H locs hp hLw1 => ?_)
  obtain ⟨rfl, hp0, hp1⟩ := hp
  refine lv_istore (lv' := [(6, .int (okC 5 (xs (i + 1)))), (5, .int xi), (4, .ref od), (3, .ref oo), (2, .ref om), (1, .ref ox), (0, .ref b)]) hx hb dL_law_1388 hl (by decide) rfl (fun ls hl => ?_)
  refine lv_aload_n hx hb dL_law_1390 rfl (lv_at hl 4 rfl) ?_
  refine lv_aload_n hx hb dL_law_1391 rfl (lv_at hl 6 rfl) ?_
  refine lv_iload hx hb dL_law_1392 (lv_at hl 1 rfl) ?_
  refine lv_iconst (v := 1) hx hb dL_law_1394 (by decide) ?_
  refine lv_iadd hx hb dL_law_1395 ?_
  refine lv_topi (fun x_2 ex_2 => ?_)
  have nx_2 : x_2 = nI (i + 1) := ex_2.trans ((congr (congrArg (fun u v : Int32 => u + v) hxi) (rfl : (1 : Int32) = nI 1)).trans (nI_add _ _))
  refine lw_sld (i := i) (k := 1) hx hb hX hbl hLw1.1.2.2 nx_2 (by omega) hN dL_law_1396 ?_
  refine wL_callM (va_runV (As := [.int (xs (i + 1))]) (rest := []) ⟨hx, hb, hml, hown, hts⟩ (m_X2_balance l hm0 hmr hI.1 ht1 (xs (i + 1))) (cwV 1 hts gL_law_X2_balance rfl rfl rfl (by decide +kernel) ⟨Nat.le_of_ble_eq_true rfl, Nat.le_of_ble_eq_true rfl⟩) (wy_pVW hK hLw1.2.1 hm0.1 rfl) rfl rfl hl.1 rfl (lv_room (Nat.le_of_ble_eq_true rfl)) dL_law_1397 ⟨(show cells + 1 + 0 ≤ 601024 by omega), (show slots + 6 + 0 ≤ 7293034 by omega)⟩) hLw1 hA (fun r L9 f9 h9 => h9.2.1) (fun r1 fm1 H locs hpm hLw2 => ?_)
  obtain ⟨er, -, h0, h1, h2, h3, h4, h5, h6, h7, h8, h9, hm1, hmr1⟩ := hpm
  subst er
  refine lv_istore (lv' := [(7, .int (if (okC 5 (xs (i + 1))) = 0 then (dueS rr n po wk (ix (xs (i + 1)))) else 0)), (6, .int (okC 5 (xs (i + 1)))), (5, .int xi), (4, .ref od), (3, .ref oo), (2, .ref om), (1, .ref ox), (0, .ref b)]) hx hb dL_law_1400 hl (by decide) rfl (fun ls hl => ?_)
  refine lv_aload_n hx hb dL_law_1402 rfl (lv_at hl 5 rfl) ?_
  refine vp_callSi (W.runV (As := []) (rest := []) ⟨hx, hb, hml, hown, hts⟩ (m_X2_thrown0 l hm1) (cwV 0 hts gL_law_X2_thrown rfl rfl rfl (by decide +kernel) ⟨Nat.le_of_ble_eq_true rfl, Nat.le_of_ble_eq_true rfl⟩) (wy_pVR hK hLw2.2.1.1 hm1.1 rfl) rfl rfl hl.1 rfl (lv_room (Nat.le_of_ble_eq_true rfl)) dL_law_1403 ⟨(show cells + 1 + 0 + 0 ≤ 601024 by omega), (show slots + 6 + 0 + 0 ≤ 7293034 by omega)⟩) (fun r2 er2 => ?_)
  subst er2
  refine lv_iload hx hb dL_law_1406 (lv_at hl 1 rfl) ?_
  refine lv_icmp_eq (tgt := 1413) hx hb dL_law_1408 (by decide) (fun _ => ?_) (fun z => absurd rfl z)
  refine lv_iload hx hb dL_law_1413 (lv_at hl 1 rfl) ?_
  refine lv_if_ne (tgt := 1430) hx hb dL_law_1415 (by decide) (fun cT => ?_) (fun cT => ?_)
  · simp only [if_neg cT] at hm1 hmr1
    obtain ⟨rfl, rfl⟩ := hp1 cT
    refine lv_goto (tgt := 1636) hx hb dL_law_1430 (by decide) ?_
    exact KK _ _ _ _ _ ⟨L1, f1, Lm, fm1, fo1, fd, lo, ra, ar, ma, n, km, mn, wk, po, rr, _, h0, h1, h2, h3, h4, h5, h6, h7, h8, h9, hLw2, hq, hm1, hmr1, hI.same⟩ (by omega) (by omega) (lv_sub hl [2, 3, 4, 5, 6, 7] rfl)
  · simp only [if_pos cT] at hm1 hmr1
    obtain ⟨hv, ra2, ar2, hS⟩ := hp0 cT
    refine lv_aload_n hx hb dL_law_1418 rfl (lv_at hl 4 rfl) ?_
    refine lv_iconst (v := 0) hx hb dL_law_1419 (by decide) ?_
    refine lw_lald hx hb hK hLw2 dL_law_1420 ?_
    rw [hv]
    refine lv_iload hx hb dL_law_1421 (lv_at hl 0 rfl) ?_
    refine lv_i2l (v := (if (okC 5 (xs (i + 1))) = 0 then (dueS rr n po wk (ix (xs (i + 1)))) else 0).toInt64) hx hb dL_law_1423 rfl ?_
    refine W.lcmp hx hb dL_law_1424 ?_
    rw [if_pos cT, lg_cmp_self]
    refine lv_if_eq (tgt := 1430) hx hb dL_law_1425 (by decide) (fun _ => ?_) (fun z => absurd rfl z)
    refine lv_goto (tgt := 1636) hx hb dL_law_1430 (by decide) ?_
    exact KK _ _ _ _ _ ⟨L1, f1, Lm, fm1, fo1, fd, lo, ra2, ar2, ma, _, _, _, _, _, _, _, h0, h1, h2, h3, h4, h5, h6, h7, h8, h9, hLw2, hS, hm1, hmr1, hI.same⟩ (by omega) (by omega) (lv_sub hl [2, 3, 4, 5, 6, 7] rfl)
set_option maxHeartbeats 4000000 in
set_option maxRecDepth 100000 in
theorem lw_paid (l : Launch) {G : wy_G} {p : Program} {e : Env} {s : State} {m : MethodId} {below : List Frame} {meth : Method} {c : Code} {H : Heap} {locs : List Loc} {cells slots b N ox om oo od t i : Nat} {xs : Nat → Int32} {Q : State → Prop} {ls : Array Slot} {xi : Int32} (C0 : lwC G p l s m meth c b N xs) (hW : lwW G s ox om oo od t H locs) (hit : i = 5 * t) (hiN : i + 5 ≤ N) (hN : N ≤ 2560) (hl : lv_has ls 8 [(5, .int xi), (4, .ref od), (3, .ref oo), (2, .ref om), (1, .ref ox), (0, .ref b)]) (hxi : xi = nI i) (hc : cells ≤ 100 + 10 * t) (hsl : slots ≤ 6000 + 200 * t) (KK : ∀ (H1 : Heap) (locs1 : List Loc) (cells1 slots1 : Nat) (ls1 : Array Slot), lwW G s ox om oo od (t + 1) H1 locs1 → cells1 ≤ 100 + 10 * (t + 1) → slots1 ≤ 6000 + 200 * (t + 1) → lv_has ls1 8 [(5, .int xi), (4, .ref od), (3, .ref oo), (2, .ref om), (1, .ref ox), (0, .ref b)] → W p l e room_1 s m #[.ref b] below meth c H1 locs1 cells1 slots1 Q (F0 m 1636 ls1 [])) : W p l e room_1 s m #[.ref b] below meth c H locs cells slots Q (F0 m 1433 ls []) := by
  obtain ⟨hx, hb, hml, hown, hts, hX, hbl, hK, hE, hZ, hNc, hnt⟩ := C0
  obtain ⟨L, f, Lm, fm, fo, fd, lo, ra, ar, ma, n, km, mn, wk, po, rr, th, g0, g1, g2, g3, g4, g5, g6, g7, g8, g9, hLw, hq, hm0, hmr, hI⟩ := hW
  have hA : ∀ q, s.heap.size ≤ q → lwA s q := fun q h => h
  have ht1 : t + 1 ≤ 512 := by omega
  refine lv_aload_n hx hb dL_law_1433 rfl (lv_at hl 4 rfl) ?_
  refine lv_aload_n hx hb dL_law_1434 rfl (lv_at hl 5 rfl) ?_
  refine lv_iload hx hb dL_law_1435 (lv_at hl 0 rfl) ?_
  refine lv_iconst (v := 1) hx hb dL_law_1437 (by decide) ?_
  refine lv_iadd hx hb dL_law_1438 ?_
  refine lv_topi (fun x_1 ex_1 => ?_)
  have nx_1 : x_1 = nI (i + 1) := ex_1.trans ((congr (congrArg (fun u v : Int32 => u + v) hxi) (rfl : (1 : Int32) = nI 1)).trans (nI_add _ _))
  refine lw_sld (i := i) (k := 1) hx hb hX hbl hLw.1.2.2 nx_1 (by omega) hN dL_law_1439 ?_
  refine lv_aload_n hx hb dL_law_1440 rfl (lv_at hl 2 rfl) ?_
  refine wL_callO (vx_runSX (As := [.ref ox, .int (xs (i + 1)), .ref oo]) (rest := []) ⟨hx, hb, hml, hown, hts⟩ (m_L_paid l hnt hq (xs (i + 1))) (vx_cwSW 3 hts gL_law_L_paid rfl rfl rfl (by decide +kernel) ⟨Nat.le_of_ble_eq_true rfl, Nat.le_of_ble_eq_true rfl⟩) (wL_preO hK hE hZ hNc hLw hA) rfl rfl hl.1 rfl (lv_room (Nat.le_of_ble_eq_true rfl)) dL_law_1441 ⟨(show cells + 1 ≤ 601024 by omega), (show slots + 6 ≤ 7293034 by omega)⟩) hLw hA (fun C1 L1 f1 fo1 H locs hp hLw1 => ?_)
  obtain ⟨rfl, hp0, hp1⟩ := hp
  refine lv_istore (lv' := [(6, .int (okC 5 (xs (i + 1)))), (5, .int xi), (4, .ref od), (3, .ref oo), (2, .ref om), (1, .ref ox), (0, .ref b)]) hx hb dL_law_1444 hl (by decide) rfl (fun ls hl => ?_)
  refine lv_aload_n hx hb dL_law_1446 rfl (lv_at hl 4 rfl) ?_
  refine lv_aload_n hx hb dL_law_1447 rfl (lv_at hl 6 rfl) ?_
  refine lv_iload hx hb dL_law_1448 (lv_at hl 1 rfl) ?_
  refine lv_iconst (v := 1) hx hb dL_law_1450 (by decide) ?_
  refine lv_iadd hx hb dL_law_1451 ?_
  refine lv_topi (fun x_2 ex_2 => ?_)
  have nx_2 : x_2 = nI (i + 1) := ex_2.trans ((congr (congrArg (fun u v : Int32 => u + v) hxi) (rfl : (1 : Int32) = nI 1)).trans (nI_add _ _))
  refine lw_sld (i := i) (k := 1) hx hb hX hbl hLw1.1.2.2 nx_2 (by omega) hN dL_law_1452 ?_
  refine wL_callM (va_runV (As := [.int (xs (i + 1))]) (rest := []) ⟨hx, hb, hml, hown, hts⟩ (m_X2_paid l hm0 hmr hI.1 ht1 (xs (i + 1))) (cwV 1 hts gL_law_X2_paid rfl rfl rfl (by decide +kernel) ⟨Nat.le_of_ble_eq_true rfl, Nat.le_of_ble_eq_true rfl⟩) (wy_pVW hK hLw1.2.1 hm0.1 rfl) rfl rfl hl.1 rfl (lv_room (Nat.le_of_ble_eq_true rfl)) dL_law_1453 ⟨(show cells + 1 + 0 ≤ 601024 by omega), (show slots + 6 + 0 ≤ 7293034 by omega)⟩) hLw1 hA (fun r L9 f9 h9 => h9.2.1) (fun r1 fm1 H locs hpm hLw2 => ?_)
  obtain ⟨er, -, h0, h1, h2, h3, h4, h5, h6, h7, h8, h9, hm1, hmr1⟩ := hpm
  subst er
  refine lv_istore (lv' := [(7, .int (if (okC 5 (xs (i + 1))) = 0 then (po (ix (xs (i + 1)))) else 0)), (6, .int (okC 5 (xs (i + 1)))), (5, .int xi), (4, .ref od), (3, .ref oo), (2, .ref om), (1, .ref ox), (0, .ref b)]) hx hb dL_law_1456 hl (by decide) rfl (fun ls hl => ?_)
  refine lv_aload_n hx hb dL_law_1458 rfl (lv_at hl 5 rfl) ?_
  refine vp_callSi (W.runV (As := []) (rest := []) ⟨hx, hb, hml, hown, hts⟩ (m_X2_thrown0 l hm1) (cwV 0 hts gL_law_X2_thrown rfl rfl rfl (by decide +kernel) ⟨Nat.le_of_ble_eq_true rfl, Nat.le_of_ble_eq_true rfl⟩) (wy_pVR hK hLw2.2.1.1 hm1.1 rfl) rfl rfl hl.1 rfl (lv_room (Nat.le_of_ble_eq_true rfl)) dL_law_1459 ⟨(show cells + 1 + 0 + 0 ≤ 601024 by omega), (show slots + 6 + 0 + 0 ≤ 7293034 by omega)⟩) (fun r2 er2 => ?_)
  subst er2
  refine lv_iload hx hb dL_law_1462 (lv_at hl 1 rfl) ?_
  refine lv_icmp_eq (tgt := 1469) hx hb dL_law_1464 (by decide) (fun _ => ?_) (fun z => absurd rfl z)
  refine lv_iload hx hb dL_law_1469 (lv_at hl 1 rfl) ?_
  refine lv_if_ne (tgt := 1486) hx hb dL_law_1471 (by decide) (fun cT => ?_) (fun cT => ?_)
  · simp only [if_neg cT] at hm1 hmr1
    obtain ⟨rfl, rfl⟩ := hp1 cT
    refine lv_goto (tgt := 1636) hx hb dL_law_1486 (by decide) ?_
    exact KK _ _ _ _ _ ⟨L1, f1, Lm, fm1, fo1, fd, lo, ra, ar, ma, n, km, mn, wk, po, rr, _, h0, h1, h2, h3, h4, h5, h6, h7, h8, h9, hLw2, hq, hm1, hmr1, hI.same⟩ (by omega) (by omega) (lv_sub hl [2, 3, 4, 5, 6, 7] rfl)
  · simp only [if_pos cT] at hm1 hmr1
    obtain ⟨hv, ra2, ar2, hS⟩ := hp0 cT
    refine lv_aload_n hx hb dL_law_1474 rfl (lv_at hl 4 rfl) ?_
    refine lv_iconst (v := 0) hx hb dL_law_1475 (by decide) ?_
    refine lw_lald hx hb hK hLw2 dL_law_1476 ?_
    rw [hv]
    refine lv_iload hx hb dL_law_1477 (lv_at hl 0 rfl) ?_
    refine lv_i2l (v := (if (okC 5 (xs (i + 1))) = 0 then (po (ix (xs (i + 1)))) else 0).toInt64) hx hb dL_law_1479 rfl ?_
    refine W.lcmp hx hb dL_law_1480 ?_
    rw [if_pos cT, lg_cmp_self]
    refine lv_if_eq (tgt := 1486) hx hb dL_law_1481 (by decide) (fun _ => ?_) (fun z => absurd rfl z)
    refine lv_goto (tgt := 1636) hx hb dL_law_1486 (by decide) ?_
    exact KK _ _ _ _ _ ⟨L1, f1, Lm, fm1, fo1, fd, lo, ra2, ar2, ma, _, _, _, _, _, _, _, h0, h1, h2, h3, h4, h5, h6, h7, h8, h9, hLw2, hS, hm1, hmr1, hI.same⟩ (by omega) (by omega) (lv_sub hl [2, 3, 4, 5, 6, 7] rfl)
set_option maxHeartbeats 4000000 in
set_option maxRecDepth 100000 in
theorem lw_spent (l : Launch) {G : wy_G} {p : Program} {e : Env} {s : State} {m : MethodId} {below : List Frame} {meth : Method} {c : Code} {H : Heap} {locs : List Loc} {cells slots b N ox om oo od t i : Nat} {xs : Nat → Int32} {Q : State → Prop} {ls : Array Slot} {xi : Int32} (C0 : lwC G p l s m meth c b N xs) (hW : lwW G s ox om oo od t H locs) (hit : i = 5 * t) (hiN : i + 5 ≤ N) (hN : N ≤ 2560) (hl : lv_has ls 8 [(5, .int xi), (4, .ref od), (3, .ref oo), (2, .ref om), (1, .ref ox), (0, .ref b)]) (hxi : xi = nI i) (hc : cells ≤ 100 + 10 * t) (hsl : slots ≤ 6000 + 200 * t) (KK : ∀ (H1 : Heap) (locs1 : List Loc) (cells1 slots1 : Nat) (ls1 : Array Slot), lwW G s ox om oo od (t + 1) H1 locs1 → cells1 ≤ 100 + 10 * (t + 1) → slots1 ≤ 6000 + 200 * (t + 1) → lv_has ls1 8 [(5, .int xi), (4, .ref od), (3, .ref oo), (2, .ref om), (1, .ref ox), (0, .ref b)] → W p l e room_1 s m #[.ref b] below meth c H1 locs1 cells1 slots1 Q (F0 m 1636 ls1 [])) : W p l e room_1 s m #[.ref b] below meth c H locs cells slots Q (F0 m 1489 ls []) := by
  obtain ⟨hx, hb, hml, hown, hts, hX, hbl, hK, hE, hZ, hNc, hnt⟩ := C0
  obtain ⟨L, f, Lm, fm, fo, fd, lo, ra, ar, ma, n, km, mn, wk, po, rr, th, g0, g1, g2, g3, g4, g5, g6, g7, g8, g9, hLw, hq, hm0, hmr, hI⟩ := hW
  have hA : ∀ q, s.heap.size ≤ q → lwA s q := fun q h => h
  have ht1 : t + 1 ≤ 512 := by omega
  refine lv_aload_n hx hb dL_law_1489 rfl (lv_at hl 4 rfl) ?_
  refine lv_aload_n hx hb dL_law_1490 rfl (lv_at hl 5 rfl) ?_
  refine lv_iload hx hb dL_law_1491 (lv_at hl 0 rfl) ?_
  refine lv_iconst (v := 1) hx hb dL_law_1493 (by decide) ?_
  refine lv_iadd hx hb dL_law_1494 ?_
  refine lv_topi (fun x_1 ex_1 => ?_)
  have nx_1 : x_1 = nI (i + 1) := ex_1.trans ((congr (congrArg (fun u v : Int32 => u + v) hxi) (rfl : (1 : Int32) = nI 1)).trans (nI_add _ _))
  refine lw_sld (i := i) (k := 1) hx hb hX hbl hLw.1.2.2 nx_1 (by omega) hN dL_law_1495 ?_
  refine lv_aload_n hx hb dL_law_1496 rfl (lv_at hl 2 rfl) ?_
  refine wL_callO (vx_runSX (As := [.ref ox, .int (xs (i + 1)), .ref oo]) (rest := []) ⟨hx, hb, hml, hown, hts⟩ (m_L_spent l hnt hq (xs (i + 1))) (vx_cwSW 3 hts gL_law_L_spent rfl rfl rfl (by decide +kernel) ⟨Nat.le_of_ble_eq_true rfl, Nat.le_of_ble_eq_true rfl⟩) (wL_preO hK hE hZ hNc hLw hA) rfl rfl hl.1 rfl (lv_room (Nat.le_of_ble_eq_true rfl)) dL_law_1497 ⟨(show cells + 1 ≤ 601024 by omega), (show slots + 6 ≤ 7293034 by omega)⟩) hLw hA (fun C1 L1 f1 fo1 H locs hp hLw1 => ?_)
  obtain ⟨rfl, hp0, hp1⟩ := hp
  refine lv_istore (lv' := [(6, .int (okC 10 (xs (i + 1)))), (5, .int xi), (4, .ref od), (3, .ref oo), (2, .ref om), (1, .ref ox), (0, .ref b)]) hx hb dL_law_1500 hl (by decide) rfl (fun ls hl => ?_)
  refine lv_aload_n hx hb dL_law_1502 rfl (lv_at hl 4 rfl) ?_
  refine lv_aload_n hx hb dL_law_1503 rfl (lv_at hl 6 rfl) ?_
  refine lv_iload hx hb dL_law_1504 (lv_at hl 1 rfl) ?_
  refine lv_iconst (v := 1) hx hb dL_law_1506 (by decide) ?_
  refine lv_iadd hx hb dL_law_1507 ?_
  refine lv_topi (fun x_2 ex_2 => ?_)
  have nx_2 : x_2 = nI (i + 1) := ex_2.trans ((congr (congrArg (fun u v : Int32 => u + v) hxi) (rfl : (1 : Int32) = nI 1)).trans (nI_add _ _))
  refine lw_sld (i := i) (k := 1) hx hb hX hbl hLw1.1.2.2 nx_2 (by omega) hN dL_law_1508 ?_
  refine wL_callM (va_runV (As := [.int (xs (i + 1))]) (rest := []) ⟨hx, hb, hml, hown, hts⟩ (m_X2_spent l hm0 hmr hI.1 ht1 (xs (i + 1))) (cwV 1 hts gL_law_X2_spent rfl rfl rfl (by decide +kernel) ⟨Nat.le_of_ble_eq_true rfl, Nat.le_of_ble_eq_true rfl⟩) (wy_pVW hK hLw1.2.1 hm0.1 rfl) rfl rfl hl.1 rfl (lv_room (Nat.le_of_ble_eq_true rfl)) dL_law_1509 ⟨(show cells + 1 + 0 ≤ 601024 by omega), (show slots + 6 + 0 ≤ 7293034 by omega)⟩) hLw1 hA (fun r L9 f9 h9 => h9.2.1) (fun r1 fm1 H locs hpm hLw2 => ?_)
  obtain ⟨er, -, h0, h1, h2, h3, h4, h5, h6, h7, h8, h9, hm1, hmr1⟩ := hpm
  subst er
  refine lv_istore (lv' := [(7, .int (if (okC 10 (xs (i + 1))) = 0 then (spdS rr n (ix (xs (i + 1)))) else 0)), (6, .int (okC 10 (xs (i + 1)))), (5, .int xi), (4, .ref od), (3, .ref oo), (2, .ref om), (1, .ref ox), (0, .ref b)]) hx hb dL_law_1512 hl (by decide) rfl (fun ls hl => ?_)
  refine lv_aload_n hx hb dL_law_1514 rfl (lv_at hl 5 rfl) ?_
  refine vp_callSi (W.runV (As := []) (rest := []) ⟨hx, hb, hml, hown, hts⟩ (m_X2_thrown0 l hm1) (cwV 0 hts gL_law_X2_thrown rfl rfl rfl (by decide +kernel) ⟨Nat.le_of_ble_eq_true rfl, Nat.le_of_ble_eq_true rfl⟩) (wy_pVR hK hLw2.2.1.1 hm1.1 rfl) rfl rfl hl.1 rfl (lv_room (Nat.le_of_ble_eq_true rfl)) dL_law_1515 ⟨(show cells + 1 + 0 + 0 ≤ 601024 by omega), (show slots + 6 + 0 + 0 ≤ 7293034 by omega)⟩) (fun r2 er2 => ?_)
  subst er2
  refine lv_iload hx hb dL_law_1518 (lv_at hl 1 rfl) ?_
  refine lv_icmp_eq (tgt := 1525) hx hb dL_law_1520 (by decide) (fun _ => ?_) (fun z => absurd rfl z)
  refine lv_iload hx hb dL_law_1525 (lv_at hl 1 rfl) ?_
  refine lv_if_ne (tgt := 1542) hx hb dL_law_1527 (by decide) (fun cT => ?_) (fun cT => ?_)
  · simp only [if_neg cT] at hm1 hmr1
    obtain ⟨rfl, rfl⟩ := hp1 cT
    refine lv_goto (tgt := 1636) hx hb dL_law_1542 (by decide) ?_
    exact KK _ _ _ _ _ ⟨L1, f1, Lm, fm1, fo1, fd, lo, ra, ar, ma, n, km, mn, wk, po, rr, _, h0, h1, h2, h3, h4, h5, h6, h7, h8, h9, hLw2, hq, hm1, hmr1, hI.same⟩ (by omega) (by omega) (lv_sub hl [2, 3, 4, 5, 6, 7] rfl)
  · simp only [if_pos cT] at hm1 hmr1
    obtain ⟨hv, ra2, ar2, hS⟩ := hp0 cT
    refine lv_aload_n hx hb dL_law_1530 rfl (lv_at hl 4 rfl) ?_
    refine lv_iconst (v := 0) hx hb dL_law_1531 (by decide) ?_
    refine lw_lald hx hb hK hLw2 dL_law_1532 ?_
    rw [hv]
    refine lv_iload hx hb dL_law_1533 (lv_at hl 0 rfl) ?_
    refine lv_i2l (v := (if (okC 10 (xs (i + 1))) = 0 then (spdS rr n (ix (xs (i + 1)))) else 0).toInt64) hx hb dL_law_1535 rfl ?_
    refine W.lcmp hx hb dL_law_1536 ?_
    rw [if_pos cT, lg_cmp_self]
    refine lv_if_eq (tgt := 1542) hx hb dL_law_1537 (by decide) (fun _ => ?_) (fun z => absurd rfl z)
    refine lv_goto (tgt := 1636) hx hb dL_law_1542 (by decide) ?_
    exact KK _ _ _ _ _ ⟨L1, f1, Lm, fm1, fo1, fd, lo, ra2, ar2, ma, _, _, _, _, _, _, _, h0, h1, h2, h3, h4, h5, h6, h7, h8, h9, hLw2, hS, hm1, hmr1, hI.same⟩ (by omega) (by omega) (lv_sub hl [2, 3, 4, 5, 6, 7] rfl)
set_option maxHeartbeats 4000000 in
set_option maxRecDepth 100000 in
theorem lw_setRates (l : Launch) {G : wy_G} {p : Program} {e : Env} {s : State} {m : MethodId} {below : List Frame} {meth : Method} {c : Code} {H : Heap} {locs : List Loc} {cells slots b N ox om oo od t i : Nat} {xs : Nat → Int32} {Q : State → Prop} {ls : Array Slot} {xi : Int32} (C0 : lwC G p l s m meth c b N xs) (hW : lwW G s ox om oo od t H locs) (hit : i = 5 * t) (hiN : i + 5 ≤ N) (hN : N ≤ 2560) (hl : lv_has ls 8 [(5, .int xi), (4, .ref od), (3, .ref oo), (2, .ref om), (1, .ref ox), (0, .ref b)]) (hxi : xi = nI i) (hc : cells ≤ 100 + 10 * t) (hsl : slots ≤ 6000 + 200 * t) (KK : ∀ (H1 : Heap) (locs1 : List Loc) (cells1 slots1 : Nat) (ls1 : Array Slot), lwW G s ox om oo od (t + 1) H1 locs1 → cells1 ≤ 100 + 10 * (t + 1) → slots1 ≤ 6000 + 200 * (t + 1) → lv_has ls1 8 [(5, .int xi), (4, .ref od), (3, .ref oo), (2, .ref om), (1, .ref ox), (0, .ref b)] → W p l e room_1 s m #[.ref b] below meth c H1 locs1 cells1 slots1 Q (F0 m 1636 ls1 [])) : W p l e room_1 s m #[.ref b] below meth c H locs cells slots Q (F0 m 160 ls []) := by
  obtain ⟨hx, hb, hml, hown, hts, hX, hbl, hK, hE, hZ, hNc, hnt⟩ := C0
  obtain ⟨L, f, Lm, fm, fo, fd, lo, ra, ar, ma, n, km, mn, wk, po, rr, th, g0, g1, g2, g3, g4, g5, g6, g7, g8, g9, hLw, hq, hm0, hmr, hI⟩ := hW
  have hA : ∀ q, s.heap.size ≤ q → lwA s q := fun q h => h
  have ht1 : t + 1 ≤ 512 := by omega
  refine lv_aload_n hx hb dL_law_160 rfl (lv_at hl 4 rfl) ?_
  refine lv_aload_n hx hb dL_law_161 rfl (lv_at hl 5 rfl) ?_
  refine lv_iload hx hb dL_law_162 (lv_at hl 0 rfl) ?_
  refine lv_iconst (v := 1) hx hb dL_law_164 (by decide) ?_
  refine lv_iadd hx hb dL_law_165 ?_
  refine lv_topi (fun x_1 ex_1 => ?_)
  have nx_1 : x_1 = nI (i + 1) := ex_1.trans ((congr (congrArg (fun u v : Int32 => u + v) hxi) (rfl : (1 : Int32) = nI 1)).trans (nI_add _ _))
  refine lw_sld (i := i) (k := 1) hx hb hX hbl hLw.1.2.2 nx_1 (by omega) hN dL_law_166 ?_
  refine lv_aload_n hx hb dL_law_167 rfl (lv_at hl 5 rfl) ?_
  refine lv_iload hx hb dL_law_168 (lv_at hl 0 rfl) ?_
  refine lv_iconst (v := 2) hx hb dL_law_170 (by decide) ?_
  refine lv_iadd hx hb dL_law_171 ?_
  refine lv_topi (fun x_2 ex_2 => ?_)
  have nx_2 : x_2 = nI (i + 2) := ex_2.trans ((congr (congrArg (fun u v : Int32 => u + v) hxi) (rfl : (2 : Int32) = nI 2)).trans (nI_add _ _))
  refine lw_sld (i := i) (k := 2) hx hb hX hbl hLw.1.2.2 nx_2 (by omega) hN dL_law_172 ?_
  refine wL_callO (vx_runSX (As := [.ref ox, .int (xs (i + 1)), .int (xs (i + 2))]) (rest := []) ⟨hx, hb, hml, hown, hts⟩ (m_L_setRates l hnt hq (xs (i + 1)) (xs (i + 2))) (vx_cwSW 3 hts gL_law_L_setRates rfl rfl rfl (by decide +kernel) ⟨Nat.le_of_ble_eq_true rfl, Nat.le_of_ble_eq_true rfl⟩) (wL_preO hK hE hZ hNc hLw hA) rfl rfl hl.1 rfl (lv_room (Nat.le_of_ble_eq_true rfl)) dL_law_173 ⟨(show cells + 2 ≤ 601024 by omega), (show slots + 12 ≤ 7293034 by omega)⟩) hLw hA (fun C1 L1 f1 fo1 H locs hp hLw1 => ?_)
  obtain ⟨rfl, hp0, hp1⟩ := hp
  refine lv_istore (lv' := [(6, .int (srC (xs (i + 1)) (xs (i + 2)))), (5, .int xi), (4, .ref od), (3, .ref oo), (2, .ref om), (1, .ref ox), (0, .ref b)]) hx hb dL_law_176 hl (by decide) rfl (fun ls hl => ?_)
  refine lv_aload_n hx hb dL_law_178 rfl (lv_at hl 4 rfl) ?_
  refine lv_aload_n hx hb dL_law_179 rfl (lv_at hl 6 rfl) ?_
  refine lv_iload hx hb dL_law_180 (lv_at hl 1 rfl) ?_
  refine lv_iconst (v := 1) hx hb dL_law_182 (by decide) ?_
  refine lv_iadd hx hb dL_law_183 ?_
  refine lv_topi (fun x_3 ex_3 => ?_)
  have nx_3 : x_3 = nI (i + 1) := ex_3.trans ((congr (congrArg (fun u v : Int32 => u + v) hxi) (rfl : (1 : Int32) = nI 1)).trans (nI_add _ _))
  refine lw_sld (i := i) (k := 1) hx hb hX hbl hLw1.1.2.2 nx_3 (by omega) hN dL_law_184 ?_
  refine lv_aload_n hx hb dL_law_185 rfl (lv_at hl 6 rfl) ?_
  refine lv_iload hx hb dL_law_186 (lv_at hl 1 rfl) ?_
  refine lv_iconst (v := 2) hx hb dL_law_188 (by decide) ?_
  refine lv_iadd hx hb dL_law_189 ?_
  refine lv_topi (fun x_4 ex_4 => ?_)
  have nx_4 : x_4 = nI (i + 2) := ex_4.trans ((congr (congrArg (fun u v : Int32 => u + v) hxi) (rfl : (2 : Int32) = nI 2)).trans (nI_add _ _))
  refine lw_sld (i := i) (k := 2) hx hb hX hbl hLw1.1.2.2 nx_4 (by omega) hN dL_law_190 ?_
  refine wL_callM (va_runV (As := [.int (xs (i + 1)), .int (xs (i + 2))]) (rest := []) ⟨hx, hb, hml, hown, hts⟩ (m_X2_setRates l hm0 hmr hI.1 ht1 (xs (i + 1)) (xs (i + 2))) (cwV 2 hts gL_law_X2_setRates rfl rfl rfl (by decide +kernel) ⟨Nat.le_of_ble_eq_true rfl, Nat.le_of_ble_eq_true rfl⟩) (wy_pVW hK hLw1.2.1 hm0.1 rfl) rfl rfl hl.1 rfl (lv_room (Nat.le_of_ble_eq_true rfl)) dL_law_191 ⟨(show cells + 2 + 0 ≤ 601024 by omega), (show slots + 12 + 0 ≤ 7293034 by omega)⟩) hLw1 hA (fun r L9 f9 h9 => h9.2.1) (fun r1 fm1 H locs hpm hLw2 => ?_)
  obtain ⟨er, -, h0, h1, h2, h3, h4, h5, h6, h7, h8, h9, hm1, hmr1⟩ := hpm
  subst er
  refine lv_aload_n hx hb dL_law_194 rfl (lv_at hl 4 rfl) ?_
  refine vp_callSi (W.runV (As := []) (rest := []) ⟨hx, hb, hml, hown, hts⟩ (m_X2_thrown0 l hm1) (cwV 0 hts gL_law_X2_thrown rfl rfl rfl (by decide +kernel) ⟨Nat.le_of_ble_eq_true rfl, Nat.le_of_ble_eq_true rfl⟩) (wy_pVR hK hLw2.2.1.1 hm1.1 rfl) rfl rfl hl.1 rfl (lv_room (Nat.le_of_ble_eq_true rfl)) dL_law_195 ⟨(show cells + 2 + 0 + 0 ≤ 601024 by omega), (show slots + 12 + 0 + 0 ≤ 7293034 by omega)⟩) (fun r2 er2 => ?_)
  subst er2
  refine lv_iload hx hb dL_law_198 (lv_at hl 0 rfl) ?_
  refine lv_icmp_eq (tgt := 205) hx hb dL_law_200 (by decide) (fun _ => ?_) (fun z => absurd rfl z)
  refine lv_goto (tgt := 1636) hx hb dL_law_205 (by decide) ?_
  by_cases cT : (srC (xs (i + 1)) (xs (i + 2))) = 0
  · simp only [if_pos cT] at hm1
    obtain ⟨ra2, ar2, hS⟩ := hp0 cT
    exact KK _ _ _ _ _ ⟨L1, f1, Lm, fm1, fo1, fd, lo, ra2, ar2, ma, _, _, _, _, _, _, _, h0, h1, h2, h3, h4, h5, h6, h7, h8, h9, hLw2, hS, hm1, hmr1, st_setRates hI cT⟩ (by omega) (by omega) (lv_sub hl [1, 2, 3, 4, 5, 6] rfl)
  · simp only [if_neg cT] at hm1
    obtain ⟨rfl, rfl⟩ := hp1 cT
    exact KK _ _ _ _ _ ⟨L1, f1, Lm, fm1, fo1, fd, lo, ra, ar, ma, n, km, mn, wk, po, rr, _, h0, h1, h2, h3, h4, h5, h6, h7, h8, h9, hLw2, hq, hm1, hmr1, hI.same⟩ (by omega) (by omega) (lv_sub hl [1, 2, 3, 4, 5, 6] rfl)
set_option maxHeartbeats 4000000 in
set_option maxRecDepth 100000 in
theorem lw_openDisputes (l : Launch) {G : wy_G} {p : Program} {e : Env} {s : State} {m : MethodId} {below : List Frame} {meth : Method} {c : Code} {H : Heap} {locs : List Loc} {cells slots b N ox om oo od t i : Nat} {xs : Nat → Int32} {Q : State → Prop} {ls : Array Slot} {xi : Int32} (C0 : lwC G p l s m meth c b N xs) (hW : lwW G s ox om oo od t H locs) (hit : i = 5 * t) (hiN : i + 5 ≤ N) (hN : N ≤ 2560) (hl : lv_has ls 8 [(5, .int xi), (4, .ref od), (3, .ref oo), (2, .ref om), (1, .ref ox), (0, .ref b)]) (hxi : xi = nI i) (hc : cells ≤ 100 + 10 * t) (hsl : slots ≤ 6000 + 200 * t) (KK : ∀ (H1 : Heap) (locs1 : List Loc) (cells1 slots1 : Nat) (ls1 : Array Slot), lwW G s ox om oo od (t + 1) H1 locs1 → cells1 ≤ 100 + 10 * (t + 1) → slots1 ≤ 6000 + 200 * (t + 1) → lv_has ls1 8 [(5, .int xi), (4, .ref od), (3, .ref oo), (2, .ref om), (1, .ref ox), (0, .ref b)] → W p l e room_1 s m #[.ref b] below meth c H1 locs1 cells1 slots1 Q (F0 m 1636 ls1 [])) : W p l e room_1 s m #[.ref b] below meth c H locs cells slots Q (F0 m 1035 ls []) := by
  obtain ⟨hx, hb, hml, hown, hts, hX, hbl, hK, hE, hZ, hNc, hnt⟩ := C0
  obtain ⟨L, f, Lm, fm, fo, fd, lo, ra, ar, ma, n, km, mn, wk, po, rr, th, g0, g1, g2, g3, g4, g5, g6, g7, g8, g9, hLw, hq, hm0, hmr, hI⟩ := hW
  have hA : ∀ q, s.heap.size ≤ q → lwA s q := fun q h => h
  have ht1 : t + 1 ≤ 512 := by omega
  refine lv_aload_n hx hb dL_law_1035 rfl (lv_at hl 4 rfl) ?_
  refine vp_callSi (W.runV (As := []) (rest := []) ⟨hx, hb, hml, hown, hts⟩ (m_X1_openDisputes l hq) (cwV 0 hts gL_law_X1_openDisputes rfl rfl rfl (by decide +kernel) ⟨Nat.le_of_ble_eq_true rfl, Nat.le_of_ble_eq_true rfl⟩) (wy_pVR hK hLw.1.1 hq.1 rfl) rfl rfl hl.1 rfl (lv_room (Nat.le_of_ble_eq_true rfl)) dL_law_1036 ⟨(show cells + 0 ≤ 601024 by omega), (show slots + 0 ≤ 7293034 by omega)⟩) (fun r2 er2 => ?_)
  subst er2
  refine lv_aload_n hx hb dL_law_1039 rfl (lv_at hl 3 rfl) ?_
  refine wL_callM (va_runV (As := []) (rest := [.int (opdS rr n)]) ⟨hx, hb, hml, hown, hts⟩ (m_X2_openDisputes l hm0 hmr hI.1 ht1) (cwV 0 hts gL_law_X2_openDisputes rfl rfl rfl (by decide +kernel) ⟨Nat.le_of_ble_eq_true rfl, Nat.le_of_ble_eq_true rfl⟩) (wy_pVW hK hLw.2.1 hm0.1 rfl) rfl rfl hl.1 rfl (lv_room (Nat.le_of_ble_eq_true rfl)) dL_law_1040 ⟨(show cells + 0 + 0 ≤ 601024 by omega), (show slots + 0 + 0 ≤ 7293034 by omega)⟩) hLw hA (fun r L9 f9 h9 => h9.2.1) (fun r1 fm1 H locs hpm hLw2 => ?_)
  obtain ⟨er, -, h0, h1, h2, h3, h4, h5, h6, h7, h8, h9, hm1, hmr1⟩ := hpm
  subst er
  refine lv_icmp_eq (tgt := 1636) hx hb dL_law_1043 (by decide) (fun _ => ?_) (fun z => absurd rfl z)
  exact KK _ _ _ _ _ ⟨L, f, Lm, fm1, fo, fd, lo, ra, ar, ma, n, km, mn, wk, po, rr, _, h0, h1, h2, h3, h4, h5, h6, h7, h8, h9, hLw2, hq, hm1, hmr1, hI.same⟩ (by omega) (by omega) (lv_sub hl [0, 1, 2, 3, 4, 5] rfl)
set_option maxHeartbeats 4000000 in
set_option maxRecDepth 100000 in
theorem lw_week (l : Launch) {G : wy_G} {p : Program} {e : Env} {s : State} {m : MethodId} {below : List Frame} {meth : Method} {c : Code} {H : Heap} {locs : List Loc} {cells slots b N ox om oo od t i : Nat} {xs : Nat → Int32} {Q : State → Prop} {ls : Array Slot} {xi : Int32} (C0 : lwC G p l s m meth c b N xs) (hW : lwW G s ox om oo od t H locs) (hit : i = 5 * t) (hiN : i + 5 ≤ N) (hN : N ≤ 2560) (hl : lv_has ls 8 [(5, .int xi), (4, .ref od), (3, .ref oo), (2, .ref om), (1, .ref ox), (0, .ref b)]) (hxi : xi = nI i) (hc : cells ≤ 100 + 10 * t) (hsl : slots ≤ 6000 + 200 * t) (KK : ∀ (H1 : Heap) (locs1 : List Loc) (cells1 slots1 : Nat) (ls1 : Array Slot), lwW G s ox om oo od (t + 1) H1 locs1 → cells1 ≤ 100 + 10 * (t + 1) → slots1 ≤ 6000 + 200 * (t + 1) → lv_has ls1 8 [(5, .int xi), (4, .ref od), (3, .ref oo), (2, .ref om), (1, .ref ox), (0, .ref b)] → W p l e room_1 s m #[.ref b] below meth c H1 locs1 cells1 slots1 Q (F0 m 1636 ls1 [])) : W p l e room_1 s m #[.ref b] below meth c H locs cells slots Q (F0 m 1092 ls []) := by
  obtain ⟨hx, hb, hml, hown, hts, hX, hbl, hK, hE, hZ, hNc, hnt⟩ := C0
  obtain ⟨L, f, Lm, fm, fo, fd, lo, ra, ar, ma, n, km, mn, wk, po, rr, th, g0, g1, g2, g3, g4, g5, g6, g7, g8, g9, hLw, hq, hm0, hmr, hI⟩ := hW
  have hA : ∀ q, s.heap.size ≤ q → lwA s q := fun q h => h
  have ht1 : t + 1 ≤ 512 := by omega
  refine lv_aload_n hx hb dL_law_1092 rfl (lv_at hl 4 rfl) ?_
  refine vp_callSi (W.runV (As := []) (rest := []) ⟨hx, hb, hml, hown, hts⟩ (m_X1_week l hq) (cwV 0 hts gL_law_X1_week rfl rfl rfl (by decide +kernel) ⟨Nat.le_of_ble_eq_true rfl, Nat.le_of_ble_eq_true rfl⟩) (wy_pVR hK hLw.1.1 hq.1 rfl) rfl rfl hl.1 rfl (lv_room (Nat.le_of_ble_eq_true rfl)) dL_law_1093 ⟨(show cells + 0 ≤ 601024 by omega), (show slots + 0 ≤ 7293034 by omega)⟩) (fun r2 er2 => ?_)
  subst er2
  refine lv_aload_n hx hb dL_law_1096 rfl (lv_at hl 3 rfl) ?_
  refine wL_callM (va_runV (As := []) (rest := [.int (nI wk)]) ⟨hx, hb, hml, hown, hts⟩ (m_X2_week l hm0) (cwV 0 hts gL_law_X2_week rfl rfl rfl (by decide +kernel) ⟨Nat.le_of_ble_eq_true rfl, Nat.le_of_ble_eq_true rfl⟩) (wy_pVW hK hLw.2.1 hm0.1 rfl) rfl rfl hl.1 rfl (lv_room (Nat.le_of_ble_eq_true rfl)) dL_law_1097 ⟨(show cells + 0 + 0 ≤ 601024 by omega), (show slots + 0 + 0 ≤ 7293034 by omega)⟩) hLw hA (fun r L9 f9 h9 => h9.2.1) (fun r1 fm1 H locs hpm hLw2 => ?_)
  obtain ⟨er, -, hm1⟩ := hpm
  subst er
  refine lv_icmp_eq (tgt := 1636) hx hb dL_law_1100 (by decide) (fun _ => ?_) (fun z => absurd rfl z)
  exact KK _ _ _ _ _ ⟨L, f, Lm, fm1, fo, fd, lo, ra, ar, ma, n, km, mn, wk, po, rr, _, g0, g1, g2, g3, g4, g5, g6, g7, g8, g9, hLw2, hq, hm1, hmr, hI.same⟩ (by omega) (by omega) (lv_sub hl [0, 1, 2, 3, 4, 5] rfl)
set_option maxHeartbeats 4000000 in
set_option maxRecDepth 100000 in
theorem lw_house (l : Launch) {G : wy_G} {p : Program} {e : Env} {s : State} {m : MethodId} {below : List Frame} {meth : Method} {c : Code} {H : Heap} {locs : List Loc} {cells slots b N ox om oo od t i : Nat} {xs : Nat → Int32} {Q : State → Prop} {ls : Array Slot} {xi : Int32} (C0 : lwC G p l s m meth c b N xs) (hW : lwW G s ox om oo od t H locs) (hit : i = 5 * t) (hiN : i + 5 ≤ N) (hN : N ≤ 2560) (hl : lv_has ls 8 [(5, .int xi), (4, .ref od), (3, .ref oo), (2, .ref om), (1, .ref ox), (0, .ref b)]) (hxi : xi = nI i) (hc : cells ≤ 100 + 10 * t) (hsl : slots ≤ 6000 + 200 * t) (KK : ∀ (H1 : Heap) (locs1 : List Loc) (cells1 slots1 : Nat) (ls1 : Array Slot), lwW G s ox om oo od (t + 1) H1 locs1 → cells1 ≤ 100 + 10 * (t + 1) → slots1 ≤ 6000 + 200 * (t + 1) → lv_has ls1 8 [(5, .int xi), (4, .ref od), (3, .ref oo), (2, .ref om), (1, .ref ox), (0, .ref b)] → W p l e room_1 s m #[.ref b] below meth c H1 locs1 cells1 slots1 Q (F0 m 1636 ls1 [])) : W p l e room_1 s m #[.ref b] below meth c H locs cells slots Q (F0 m 1545 ls []) := by
  obtain ⟨hx, hb, hml, hown, hts, hX, hbl, hK, hE, hZ, hNc, hnt⟩ := C0
  obtain ⟨L, f, Lm, fm, fo, fd, lo, ra, ar, ma, n, km, mn, wk, po, rr, th, g0, g1, g2, g3, g4, g5, g6, g7, g8, g9, hLw, hq, hm0, hmr, hI⟩ := hW
  have hA : ∀ q, s.heap.size ≤ q → lwA s q := fun q h => h
  have ht1 : t + 1 ≤ 512 := by omega
  refine lv_aload_n hx hb dL_law_1545 rfl (lv_at hl 4 rfl) ?_
  refine vp_callSi (W.runV (As := []) (rest := []) ⟨hx, hb, hml, hown, hts⟩ (m_X1_house l hq) (cwV 0 hts gL_law_X1_house rfl rfl rfl (by decide +kernel) ⟨Nat.le_of_ble_eq_true rfl, Nat.le_of_ble_eq_true rfl⟩) (wy_pVR hK hLw.1.1 hq.1 rfl) rfl rfl hl.1 rfl (lv_room (Nat.le_of_ble_eq_true rfl)) dL_law_1546 ⟨(show cells + 0 ≤ 601024 by omega), (show slots + 0 ≤ 7293034 by omega)⟩) (fun r2 er2 => ?_)
  subst er2
  refine lv_aload_n hx hb dL_law_1549 rfl (lv_at hl 3 rfl) ?_
  refine wL_callM (va_runV (As := []) (rest := [.int (houS rr n wk)]) ⟨hx, hb, hml, hown, hts⟩ (m_X2_house l hm0 hmr hI.1 ht1) (cwV 0 hts gL_law_X2_house rfl rfl rfl (by decide +kernel) ⟨Nat.le_of_ble_eq_true rfl, Nat.le_of_ble_eq_true rfl⟩) (wy_pVW hK hLw.2.1 hm0.1 rfl) rfl rfl hl.1 rfl (lv_room (Nat.le_of_ble_eq_true rfl)) dL_law_1550 ⟨(show cells + 0 + 0 ≤ 601024 by omega), (show slots + 0 + 0 ≤ 7293034 by omega)⟩) hLw hA (fun r L9 f9 h9 => h9.2.1) (fun r1 fm1 H locs hpm hLw2 => ?_)
  obtain ⟨er, -, h0, h1, h2, h3, h4, h5, h6, h7, h8, h9, hm1, hmr1⟩ := hpm
  subst er
  refine lv_icmp_eq (tgt := 1636) hx hb dL_law_1553 (by decide) (fun _ => ?_) (fun z => absurd rfl z)
  exact KK _ _ _ _ _ ⟨L, f, Lm, fm1, fo, fd, lo, ra, ar, ma, n, km, mn, wk, po, rr, _, h0, h1, h2, h3, h4, h5, h6, h7, h8, h9, hLw2, hq, hm1, hmr1, hI.same⟩ (by omega) (by omega) (lv_sub hl [0, 1, 2, 3, 4, 5] rfl)
set_option maxHeartbeats 4000000 in
set_option maxRecDepth 100000 in
theorem lw_isVoid (l : Launch) {G : wy_G} {p : Program} {e : Env} {s : State} {m : MethodId} {below : List Frame} {meth : Method} {c : Code} {H : Heap} {locs : List Loc} {cells slots b N ox om oo od t i : Nat} {xs : Nat → Int32} {Q : State → Prop} {ls : Array Slot} {xi : Int32} (C0 : lwC G p l s m meth c b N xs) (hW : lwW G s ox om oo od t H locs) (hit : i = 5 * t) (hiN : i + 5 ≤ N) (hN : N ≤ 2560) (hl : lv_has ls 8 [(5, .int xi), (4, .ref od), (3, .ref oo), (2, .ref om), (1, .ref ox), (0, .ref b)]) (hxi : xi = nI i) (hc : cells ≤ 100 + 10 * t) (hsl : slots ≤ 6000 + 200 * t) (KK : ∀ (H1 : Heap) (locs1 : List Loc) (cells1 slots1 : Nat) (ls1 : Array Slot), lwW G s ox om oo od (t + 1) H1 locs1 → cells1 ≤ 100 + 10 * (t + 1) → slots1 ≤ 6000 + 200 * (t + 1) → lv_has ls1 8 [(5, .int xi), (4, .ref od), (3, .ref oo), (2, .ref om), (1, .ref ox), (0, .ref b)] → W p l e room_1 s m #[.ref b] below meth c H1 locs1 cells1 slots1 Q (F0 m 1636 ls1 [])) : W p l e room_1 s m #[.ref b] below meth c H locs cells slots Q (F0 m 796 ls []) := by
  obtain ⟨hx, hb, hml, hown, hts, hX, hbl, hK, hE, hZ, hNc, hnt⟩ := C0
  obtain ⟨L, f, Lm, fm, fo, fd, lo, ra, ar, ma, n, km, mn, wk, po, rr, th, g0, g1, g2, g3, g4, g5, g6, g7, g8, g9, hLw, hq, hm0, hmr, hI⟩ := hW
  have hA : ∀ q, s.heap.size ≤ q → lwA s q := fun q h => h
  have ht1 : t + 1 ≤ 512 := by omega
  refine lv_aload_n hx hb dL_law_796 rfl (lv_at hl 4 rfl) ?_
  refine lv_aload_n hx hb dL_law_797 rfl (lv_at hl 5 rfl) ?_
  refine lv_iload hx hb dL_law_798 (lv_at hl 0 rfl) ?_
  refine lv_iconst (v := 1) hx hb dL_law_800 (by decide) ?_
  refine lv_iadd hx hb dL_law_801 ?_
  refine lv_topi (fun x_1 ex_1 => ?_)
  have nx_1 : x_1 = nI (i + 1) := ex_1.trans ((congr (congrArg (fun u v : Int32 => u + v) hxi) (rfl : (1 : Int32) = nI 1)).trans (nI_add _ _))
  refine lw_sld (i := i) (k := 1) hx hb hX hbl hLw.1.2.2 nx_1 (by omega) hN dL_law_802 ?_
  refine lv_aload_n hx hb dL_law_803 rfl (lv_at hl 2 rfl) ?_
  refine wL_callO (vx_runSX (As := [.ref ox, .int (xs (i + 1)), .ref oo]) (rest := []) ⟨hx, hb, hml, hown, hts⟩ (m_L_isVoid l hnt hq (xs (i + 1))) (vx_cwSW 3 hts gL_law_L_isVoid rfl rfl rfl (by decide +kernel) ⟨Nat.le_of_ble_eq_true rfl, Nat.le_of_ble_eq_true rfl⟩) (wL_preO hK hE hZ hNc hLw hA) rfl rfl hl.1 rfl (lv_room (Nat.le_of_ble_eq_true rfl)) dL_law_804 ⟨(show cells + 1 ≤ 601024 by omega), (show slots + 6 ≤ 7293034 by omega)⟩) hLw hA (fun C1 L1 f1 fo1 H locs hp hLw1 => ?_)
  obtain ⟨rfl, hp0, hp1⟩ := hp
  refine lv_istore (lv' := [(6, .int (okC n (xs (i + 1)))), (5, .int xi), (4, .ref od), (3, .ref oo), (2, .ref om), (1, .ref ox), (0, .ref b)]) hx hb dL_law_807 hl (by decide) rfl (fun ls hl => ?_)
  refine lv_aload_n hx hb dL_law_809 rfl (lv_at hl 4 rfl) ?_
  refine lv_aload_n hx hb dL_law_810 rfl (lv_at hl 6 rfl) ?_
  refine lv_iload hx hb dL_law_811 (lv_at hl 1 rfl) ?_
  refine lv_iconst (v := 1) hx hb dL_law_813 (by decide) ?_
  refine lv_iadd hx hb dL_law_814 ?_
  refine lv_topi (fun x_2 ex_2 => ?_)
  have nx_2 : x_2 = nI (i + 1) := ex_2.trans ((congr (congrArg (fun u v : Int32 => u + v) hxi) (rfl : (1 : Int32) = nI 1)).trans (nI_add _ _))
  refine lw_sld (i := i) (k := 1) hx hb hX hbl hLw1.1.2.2 nx_2 (by omega) hN dL_law_815 ?_
  refine wL_callM (va_runV (As := [.int (xs (i + 1))]) (rest := []) ⟨hx, hb, hml, hown, hts⟩ (m_X2_isVoid l hm0 hmr hI.1 ht1 (xs (i + 1))) (cwV 1 hts gL_law_X2_isVoid rfl rfl rfl (by decide +kernel) ⟨Nat.le_of_ble_eq_true rfl, Nat.le_of_ble_eq_true rfl⟩) (wy_pVW hK hLw1.2.1 hm0.1 rfl) rfl rfl hl.1 rfl (lv_room (Nat.le_of_ble_eq_true rfl)) dL_law_816 ⟨(show cells + 1 + 0 ≤ 601024 by omega), (show slots + 6 + 0 ≤ 7293034 by omega)⟩) hLw1 hA (fun r L9 f9 h9 => h9.2.1) (fun r1 fm1 H locs hpm hLw2 => ?_)
  obtain ⟨er, -, h0, h1, h2, h3, h4, h5, h6, h7, h8, h9, hm1, hmr1⟩ := hpm
  subst er
  refine lv_istore (lv' := [(7, .int (if (okC n (xs (i + 1))) = 0 then (bI (voidR (rr (ix (xs (i + 1)))))) else 0)), (6, .int (okC n (xs (i + 1)))), (5, .int xi), (4, .ref od), (3, .ref oo), (2, .ref om), (1, .ref ox), (0, .ref b)]) hx hb dL_law_819 hl (by decide) rfl (fun ls hl => ?_)
  refine lv_aload_n hx hb dL_law_821 rfl (lv_at hl 5 rfl) ?_
  refine vp_callSi (W.runV (As := []) (rest := []) ⟨hx, hb, hml, hown, hts⟩ (m_X2_thrown0 l hm1) (cwV 0 hts gL_law_X2_thrown rfl rfl rfl (by decide +kernel) ⟨Nat.le_of_ble_eq_true rfl, Nat.le_of_ble_eq_true rfl⟩) (wy_pVR hK hLw2.2.1.1 hm1.1 rfl) rfl rfl hl.1 rfl (lv_room (Nat.le_of_ble_eq_true rfl)) dL_law_822 ⟨(show cells + 1 + 0 + 0 ≤ 601024 by omega), (show slots + 6 + 0 + 0 ≤ 7293034 by omega)⟩) (fun r2 er2 => ?_)
  subst er2
  refine lv_iload hx hb dL_law_825 (lv_at hl 1 rfl) ?_
  refine lv_icmp_eq (tgt := 832) hx hb dL_law_827 (by decide) (fun _ => ?_) (fun z => absurd rfl z)
  refine lv_iload hx hb dL_law_832 (lv_at hl 1 rfl) ?_
  refine lv_if_ne (tgt := 856) hx hb dL_law_834 (by decide) (fun cT => ?_) (fun cT => ?_)
  · simp only [if_neg cT] at hm1 hmr1
    obtain ⟨rfl, rfl⟩ := hp1 cT
    refine lv_goto (tgt := 1636) hx hb dL_law_856 (by decide) ?_
    exact KK _ _ _ _ _ ⟨L1, f1, Lm, fm1, fo1, fd, lo, ra, ar, ma, n, km, mn, wk, po, rr, _, h0, h1, h2, h3, h4, h5, h6, h7, h8, h9, hLw2, hq, hm1, hmr1, hI.same⟩ (by omega) (by omega) (lv_sub hl [2, 3, 4, 5, 6, 7] rfl)
  · simp only [if_pos cT] at hm1 hmr1
    obtain ⟨hv, ra2, ar2, hS⟩ := hp0 cT
    refine lv_aload_n hx hb dL_law_837 rfl (lv_at hl 4 rfl) ?_
    refine lv_iconst (v := 0) hx hb dL_law_838 (by decide) ?_
    refine lw_lald hx hb hK hLw2 dL_law_839 ?_
    rw [hv]
    refine lv_iload hx hb dL_law_840 (lv_at hl 0 rfl) ?_
    rw [if_pos cT]
    refine lv_if_eq (tgt := 849) hx hb dL_law_842 (by decide) (fun cz => ?_) (fun cz => ?_)
    · refine lv_lconst (v := 0) hx hb dL_law_849 rfl ?_
      refine W.lcmp hx hb dL_law_850 ?_
      rw [show ((bI (voidR (rr (ix (xs (i + 1))))))).toInt64 = 0 by rw [bI_0 cz]; rfl, lg_cmp_self]
      refine lv_if_eq (tgt := 856) hx hb dL_law_851 (by decide) (fun _ => ?_) (fun z => absurd rfl z)
      refine lv_goto (tgt := 1636) hx hb dL_law_856 (by decide) ?_
      exact KK _ _ _ _ _ ⟨L1, f1, Lm, fm1, fo1, fd, lo, ra2, ar2, ma, _, _, _, _, _, _, _, h0, h1, h2, h3, h4, h5, h6, h7, h8, h9, hLw2, hS, hm1, hmr1, hI.same⟩ (by omega) (by omega) (lv_sub hl [2, 3, 4, 5, 6, 7] rfl)
    · refine lv_lconst (v := 1) hx hb dL_law_845 rfl ?_
      refine lv_goto (tgt := 850) hx hb dL_law_846 (by decide) ?_
      refine W.lcmp hx hb dL_law_850 ?_
      rw [show ((bI (voidR (rr (ix (xs (i + 1))))))).toInt64 = 1 by rw [bI_1 cz]; rfl, lg_cmp_self]
      refine lv_if_eq (tgt := 856) hx hb dL_law_851 (by decide) (fun _ => ?_) (fun z => absurd rfl z)
      refine lv_goto (tgt := 1636) hx hb dL_law_856 (by decide) ?_
      exact KK _ _ _ _ _ ⟨L1, f1, Lm, fm1, fo1, fd, lo, ra2, ar2, ma, _, _, _, _, _, _, _, h0, h1, h2, h3, h4, h5, h6, h7, h8, h9, hLw2, hS, hm1, hmr1, hI.same⟩ (by omega) (by omega) (lv_sub hl [2, 3, 4, 5, 6, 7] rfl)
set_option maxHeartbeats 4000000 in
set_option maxRecDepth 100000 in
theorem lw_settle (l : Launch) {G : wy_G} {p : Program} {e : Env} {s : State} {m : MethodId} {below : List Frame} {meth : Method} {c : Code} {H : Heap} {locs : List Loc} {cells slots b N ox om oo od t i : Nat} {xs : Nat → Int32} {Q : State → Prop} {ls : Array Slot} {xi : Int32} (C0 : lwC G p l s m meth c b N xs) (hW : lwW G s ox om oo od t H locs) (hit : i = 5 * t) (hiN : i + 5 ≤ N) (hN : N ≤ 2560) (hl : lv_has ls 8 [(5, .int xi), (4, .ref od), (3, .ref oo), (2, .ref om), (1, .ref ox), (0, .ref b)]) (hxi : xi = nI i) (hc : cells ≤ 100 + 10 * t) (hsl : slots ≤ 6000 + 200 * t) (KK : ∀ (H1 : Heap) (locs1 : List Loc) (cells1 slots1 : Nat) (ls1 : Array Slot), lwW G s ox om oo od (t + 1) H1 locs1 → cells1 ≤ 100 + 10 * (t + 1) → slots1 ≤ 6000 + 200 * (t + 1) → lv_has ls1 8 [(5, .int xi), (4, .ref od), (3, .ref oo), (2, .ref om), (1, .ref ox), (0, .ref b)] → W p l e room_1 s m #[.ref b] below meth c H1 locs1 cells1 slots1 Q (F0 m 1636 ls1 [])) : W p l e room_1 s m #[.ref b] below meth c H locs cells slots Q (F0 m 927 ls []) := by
  obtain ⟨hx, hb, hml, hown, hts, hX, hbl, hK, hE, hZ, hNc, hnt⟩ := C0
  obtain ⟨L, f, Lm, fm, fo, fd, lo, ra, ar, ma, n, km, mn, wk, po, rr, th, g0, g1, g2, g3, g4, g5, g6, g7, g8, g9, hLw, hq, hm0, hmr, hI⟩ := hW
  have hA : ∀ q, s.heap.size ≤ q → lwA s q := fun q h => h
  have ht1 : t + 1 ≤ 512 := by omega
  refine lv_aload_n hx hb dL_law_927 rfl (lv_at hl 4 rfl) ?_
  refine lv_aload_n hx hb dL_law_928 rfl (lv_at hl 5 rfl) ?_
  refine lv_iload hx hb dL_law_929 (lv_at hl 0 rfl) ?_
  refine lv_iconst (v := 1) hx hb dL_law_931 (by decide) ?_
  refine lv_iadd hx hb dL_law_932 ?_
  refine lv_topi (fun x_1 ex_1 => ?_)
  have nx_1 : x_1 = nI (i + 1) := ex_1.trans ((congr (congrArg (fun u v : Int32 => u + v) hxi) (rfl : (1 : Int32) = nI 1)).trans (nI_add _ _))
  refine lw_sld (i := i) (k := 1) hx hb hX hbl hLw.1.2.2 nx_1 (by omega) hN dL_law_933 ?_
  refine lv_aload_n hx hb dL_law_934 rfl (lv_at hl 5 rfl) ?_
  refine lv_iload hx hb dL_law_935 (lv_at hl 0 rfl) ?_
  refine lv_iconst (v := 2) hx hb dL_law_937 (by decide) ?_
  refine lv_iadd hx hb dL_law_938 ?_
  refine lv_topi (fun x_2 ex_2 => ?_)
  have nx_2 : x_2 = nI (i + 2) := ex_2.trans ((congr (congrArg (fun u v : Int32 => u + v) hxi) (rfl : (2 : Int32) = nI 2)).trans (nI_add _ _))
  refine lw_sld (i := i) (k := 2) hx hb hX hbl hLw.1.2.2 nx_2 (by omega) hN dL_law_939 ?_
  refine lv_aload_n hx hb dL_law_940 rfl (lv_at hl 5 rfl) ?_
  refine lv_iload hx hb dL_law_941 (lv_at hl 0 rfl) ?_
  refine lv_iconst (v := 3) hx hb dL_law_943 (by decide) ?_
  refine lv_iadd hx hb dL_law_944 ?_
  refine lv_topi (fun x_3 ex_3 => ?_)
  have nx_3 : x_3 = nI (i + 3) := ex_3.trans ((congr (congrArg (fun u v : Int32 => u + v) hxi) (rfl : (3 : Int32) = nI 3)).trans (nI_add _ _))
  refine lw_sld (i := i) (k := 3) hx hb hX hbl hLw.1.2.2 nx_3 (by omega) hN dL_law_945 ?_
  refine lv_aload_n hx hb dL_law_946 rfl (lv_at hl 5 rfl) ?_
  refine lv_iload hx hb dL_law_947 (lv_at hl 0 rfl) ?_
  refine lv_iconst (v := 4) hx hb dL_law_949 (by decide) ?_
  refine lv_iadd hx hb dL_law_950 ?_
  refine lv_topi (fun x_4 ex_4 => ?_)
  have nx_4 : x_4 = nI (i + 4) := ex_4.trans ((congr (congrArg (fun u v : Int32 => u + v) hxi) (rfl : (4 : Int32) = nI 4)).trans (nI_add _ _))
  refine lw_sld (i := i) (k := 4) hx hb hX hbl hLw.1.2.2 nx_4 (by omega) hN dL_law_951 ?_
  refine lv_if_eq (tgt := 959) hx hb dL_law_952 (by decide) (fun c4 => ?_) (fun c4 => ?_)
  · refine lv_iconst (v := 0) hx hb dL_law_959 (by decide) ?_
    refine lv_aload_n hx hb dL_law_960 rfl (lv_at hl 2 rfl) ?_
    refine wL_callO (vx_runSX (As := [.ref ox, .int (xs (i + 1)), .int (xs (i + 2)), .int (xs (i + 3)), .int 0, .ref oo]) (rest := []) ⟨hx, hb, hml, hown, hts⟩ (m_L_settle l hnt hq (xs (i + 1)) (xs (i + 2)) (xs (i + 3)) (false)) (vx_cwSW 6 hts gL_law_L_settle rfl rfl rfl (by decide +kernel) ⟨Nat.le_of_ble_eq_true rfl, Nat.le_of_ble_eq_true rfl⟩) (wL_preO hK hE hZ hNc hLw hA) rfl rfl hl.1 rfl (lv_room (Nat.le_of_ble_eq_true rfl)) dL_law_961 ⟨(show cells + 4 ≤ 601024 by omega), (show slots + 24 ≤ 7293034 by omega)⟩) hLw hA (fun C1 L1 f1 fo1 H locs hp hLw1 => ?_)
    obtain ⟨rfl, hp0, hp1⟩ := hp
    refine lv_istore (lv' := [(6, .int (slC n (xs (i + 1)) (xs (i + 2)) (xs (i + 3)) (!rdp (rr (ix (xs (i + 1)))) (ix (xs (i + 2))) || rse (rr (ix (xs (i + 1)))) (ix (xs (i + 2)))))), (5, .int xi), (4, .ref od), (3, .ref oo), (2, .ref om), (1, .ref ox), (0, .ref b)]) hx hb dL_law_964 hl (by decide) rfl (fun ls hl => ?_)
    refine lv_aload_n hx hb dL_law_966 rfl (lv_at hl 4 rfl) ?_
    refine lv_aload_n hx hb dL_law_967 rfl (lv_at hl 6 rfl) ?_
    refine lv_iload hx hb dL_law_968 (lv_at hl 1 rfl) ?_
    refine lv_iconst (v := 1) hx hb dL_law_970 (by decide) ?_
    refine lv_iadd hx hb dL_law_971 ?_
    refine lv_topi (fun x_5 ex_5 => ?_)
    have nx_5 : x_5 = nI (i + 1) := ex_5.trans ((congr (congrArg (fun u v : Int32 => u + v) hxi) (rfl : (1 : Int32) = nI 1)).trans (nI_add _ _))
    refine lw_sld (i := i) (k := 1) hx hb hX hbl hLw1.1.2.2 nx_5 (by omega) hN dL_law_972 ?_
    refine lv_aload_n hx hb dL_law_973 rfl (lv_at hl 6 rfl) ?_
    refine lv_iload hx hb dL_law_974 (lv_at hl 1 rfl) ?_
    refine lv_iconst (v := 2) hx hb dL_law_976 (by decide) ?_
    refine lv_iadd hx hb dL_law_977 ?_
    refine lv_topi (fun x_6 ex_6 => ?_)
    have nx_6 : x_6 = nI (i + 2) := ex_6.trans ((congr (congrArg (fun u v : Int32 => u + v) hxi) (rfl : (2 : Int32) = nI 2)).trans (nI_add _ _))
    refine lw_sld (i := i) (k := 2) hx hb hX hbl hLw1.1.2.2 nx_6 (by omega) hN dL_law_978 ?_
    refine lv_aload_n hx hb dL_law_979 rfl (lv_at hl 6 rfl) ?_
    refine lv_iload hx hb dL_law_980 (lv_at hl 1 rfl) ?_
    refine lv_iconst (v := 3) hx hb dL_law_982 (by decide) ?_
    refine lv_iadd hx hb dL_law_983 ?_
    refine lv_topi (fun x_7 ex_7 => ?_)
    have nx_7 : x_7 = nI (i + 3) := ex_7.trans ((congr (congrArg (fun u v : Int32 => u + v) hxi) (rfl : (3 : Int32) = nI 3)).trans (nI_add _ _))
    refine lw_sld (i := i) (k := 3) hx hb hX hbl hLw1.1.2.2 nx_7 (by omega) hN dL_law_984 ?_
    refine lv_aload_n hx hb dL_law_985 rfl (lv_at hl 6 rfl) ?_
    refine lv_iload hx hb dL_law_986 (lv_at hl 1 rfl) ?_
    refine lv_iconst (v := 4) hx hb dL_law_988 (by decide) ?_
    refine lv_iadd hx hb dL_law_989 ?_
    refine lv_topi (fun x_8 ex_8 => ?_)
    have nx_8 : x_8 = nI (i + 4) := ex_8.trans ((congr (congrArg (fun u v : Int32 => u + v) hxi) (rfl : (4 : Int32) = nI 4)).trans (nI_add _ _))
    refine lw_sld (i := i) (k := 4) hx hb hX hbl hLw1.1.2.2 nx_8 (by omega) hN dL_law_990 ?_
    refine lv_if_eq (tgt := 998) hx hb dL_law_991 (by decide) (fun _ => ?_) (fun z => absurd c4 z)
    refine lv_iconst (v := 0) hx hb dL_law_998 (by decide) ?_
    refine wL_callM (va_runV (As := [.int (xs (i + 1)), .int (xs (i + 2)), .int (xs (i + 3)), .int 0]) (rest := []) ⟨hx, hb, hml, hown, hts⟩ (m_X2_settle l hm0 hmr hI.1 ht1 (xs (i + 1)) (xs (i + 2)) (xs (i + 3)) (false)) (cwV 4 hts gL_law_X2_settle rfl rfl rfl (by decide +kernel) ⟨Nat.le_of_ble_eq_true rfl, Nat.le_of_ble_eq_true rfl⟩) (wy_pVW hK hLw1.2.1 hm0.1 rfl) rfl rfl hl.1 rfl (lv_room (Nat.le_of_ble_eq_true rfl)) dL_law_999 ⟨(show cells + 4 + 0 ≤ 601024 by omega), (show slots + 24 + 0 ≤ 7293034 by omega)⟩) hLw1 hA (fun r L9 f9 h9 => h9.2.1) (fun r1 fm1 H locs hpm hLw2 => ?_)
    obtain ⟨er, -, h0, h1, h2, h3, h4, h5, h6, h7, h8, h9, hm1, hmr1⟩ := hpm
    subst er
    refine lv_istore (lv' := [(7, .int (if (slC n (xs (i + 1)) (xs (i + 2)) (xs (i + 3)) (!rdp (rr (ix (xs (i + 1)))) (ix (xs (i + 2))) || rse (rr (ix (xs (i + 1)))) (ix (xs (i + 2))))) = 0 then (rfv (rr (ix (xs (i + 1)))) (ix (xs (i + 2))) (xs (i + 3))) else 0)), (6, .int (slC n (xs (i + 1)) (xs (i + 2)) (xs (i + 3)) (!rdp (rr (ix (xs (i + 1)))) (ix (xs (i + 2))) || rse (rr (ix (xs (i + 1)))) (ix (xs (i + 2)))))), (5, .int xi), (4, .ref od), (3, .ref oo), (2, .ref om), (1, .ref ox), (0, .ref b)]) hx hb dL_law_1002 hl (by decide) rfl (fun ls hl => ?_)
    refine lv_aload_n hx hb dL_law_1004 rfl (lv_at hl 5 rfl) ?_
    refine vp_callSi (W.runV (As := []) (rest := []) ⟨hx, hb, hml, hown, hts⟩ (m_X2_thrown0 l hm1) (cwV 0 hts gL_law_X2_thrown rfl rfl rfl (by decide +kernel) ⟨Nat.le_of_ble_eq_true rfl, Nat.le_of_ble_eq_true rfl⟩) (wy_pVR hK hLw2.2.1.1 hm1.1 rfl) rfl rfl hl.1 rfl (lv_room (Nat.le_of_ble_eq_true rfl)) dL_law_1005 ⟨(show cells + 4 + 0 + 0 ≤ 601024 by omega), (show slots + 24 + 0 + 0 ≤ 7293034 by omega)⟩) (fun r2 er2 => ?_)
    subst er2
    refine lv_iload hx hb dL_law_1008 (lv_at hl 1 rfl) ?_
    refine lv_icmp_eq (tgt := 1015) hx hb dL_law_1010 (by decide) (fun _ => ?_) (fun z => absurd rfl z)
    refine lv_iload hx hb dL_law_1015 (lv_at hl 1 rfl) ?_
    refine lv_if_ne (tgt := 1032) hx hb dL_law_1017 (by decide) (fun cT => ?_) (fun cT => ?_)
    · simp only [if_neg cT] at hm1 hmr1
      obtain ⟨rfl, rfl⟩ := hp1 cT
      refine lv_goto (tgt := 1636) hx hb dL_law_1032 (by decide) ?_
      exact KK _ _ _ _ _ ⟨L1, f1, Lm, fm1, fo1, fd, lo, ra, ar, ma, n, km, mn, wk, po, rr, _, h0, h1, h2, h3, h4, h5, h6, h7, h8, h9, hLw2, hq, hm1, hmr1, hI.same⟩ (by omega) (by omega) (lv_sub hl [2, 3, 4, 5, 6, 7] rfl)
    · simp only [if_pos cT] at hm1 hmr1
      obtain ⟨hv, ra2, ar2, hS⟩ := hp0 cT
      refine lv_aload_n hx hb dL_law_1020 rfl (lv_at hl 4 rfl) ?_
      refine lv_iconst (v := 0) hx hb dL_law_1021 (by decide) ?_
      refine lw_lald hx hb hK hLw2 dL_law_1022 ?_
      rw [hv]
      refine lv_iload hx hb dL_law_1023 (lv_at hl 0 rfl) ?_
      refine lv_i2l (v := (if (slC n (xs (i + 1)) (xs (i + 2)) (xs (i + 3)) (!rdp (rr (ix (xs (i + 1)))) (ix (xs (i + 2))) || rse (rr (ix (xs (i + 1)))) (ix (xs (i + 2))))) = 0 then (rfv (rr (ix (xs (i + 1)))) (ix (xs (i + 2))) (xs (i + 3))) else 0).toInt64) hx hb dL_law_1025 rfl ?_
      refine W.lcmp hx hb dL_law_1026 ?_
      rw [if_pos cT, lg_cmp_self]
      refine lv_if_eq (tgt := 1032) hx hb dL_law_1027 (by decide) (fun _ => ?_) (fun z => absurd rfl z)
      refine lv_goto (tgt := 1636) hx hb dL_law_1032 (by decide) ?_
      exact KK _ _ _ _ _ ⟨L1, f1, Lm, fm1, fo1, fd, lo, ra2, ar2, ma, _, _, _, _, _, _, _, h0, h1, h2, h3, h4, h5, h6, h7, h8, h9, hLw2, hS, hm1, hmr1, st_settle hI cT⟩ (by omega) (by omega) (lv_sub hl [2, 3, 4, 5, 6, 7] rfl)
  · refine lv_iconst (v := 1) hx hb dL_law_955 (by decide) ?_
    refine lv_goto (tgt := 960) hx hb dL_law_956 (by decide) ?_
    refine lv_aload_n hx hb dL_law_960 rfl (lv_at hl 2 rfl) ?_
    refine wL_callO (vx_runSX (As := [.ref ox, .int (xs (i + 1)), .int (xs (i + 2)), .int (xs (i + 3)), .int 1, .ref oo]) (rest := []) ⟨hx, hb, hml, hown, hts⟩ (m_L_settle l hnt hq (xs (i + 1)) (xs (i + 2)) (xs (i + 3)) (true)) (vx_cwSW 6 hts gL_law_L_settle rfl rfl rfl (by decide +kernel) ⟨Nat.le_of_ble_eq_true rfl, Nat.le_of_ble_eq_true rfl⟩) (wL_preO hK hE hZ hNc hLw hA) rfl rfl hl.1 rfl (lv_room (Nat.le_of_ble_eq_true rfl)) dL_law_961 ⟨(show cells + 4 ≤ 601024 by omega), (show slots + 24 ≤ 7293034 by omega)⟩) hLw hA (fun C1 L1 f1 fo1 H locs hp hLw1 => ?_)
    obtain ⟨rfl, hp0, hp1⟩ := hp
    refine lv_istore (lv' := [(6, .int (slC n (xs (i + 1)) (xs (i + 2)) (xs (i + 3)) (!rdp (rr (ix (xs (i + 1)))) (ix (xs (i + 2))) || rse (rr (ix (xs (i + 1)))) (ix (xs (i + 2)))))), (5, .int xi), (4, .ref od), (3, .ref oo), (2, .ref om), (1, .ref ox), (0, .ref b)]) hx hb dL_law_964 hl (by decide) rfl (fun ls hl => ?_)
    refine lv_aload_n hx hb dL_law_966 rfl (lv_at hl 4 rfl) ?_
    refine lv_aload_n hx hb dL_law_967 rfl (lv_at hl 6 rfl) ?_
    refine lv_iload hx hb dL_law_968 (lv_at hl 1 rfl) ?_
    refine lv_iconst (v := 1) hx hb dL_law_970 (by decide) ?_
    refine lv_iadd hx hb dL_law_971 ?_
    refine lv_topi (fun x_10 ex_10 => ?_)
    have nx_10 : x_10 = nI (i + 1) := ex_10.trans ((congr (congrArg (fun u v : Int32 => u + v) hxi) (rfl : (1 : Int32) = nI 1)).trans (nI_add _ _))
    refine lw_sld (i := i) (k := 1) hx hb hX hbl hLw1.1.2.2 nx_10 (by omega) hN dL_law_972 ?_
    refine lv_aload_n hx hb dL_law_973 rfl (lv_at hl 6 rfl) ?_
    refine lv_iload hx hb dL_law_974 (lv_at hl 1 rfl) ?_
    refine lv_iconst (v := 2) hx hb dL_law_976 (by decide) ?_
    refine lv_iadd hx hb dL_law_977 ?_
    refine lv_topi (fun x_11 ex_11 => ?_)
    have nx_11 : x_11 = nI (i + 2) := ex_11.trans ((congr (congrArg (fun u v : Int32 => u + v) hxi) (rfl : (2 : Int32) = nI 2)).trans (nI_add _ _))
    refine lw_sld (i := i) (k := 2) hx hb hX hbl hLw1.1.2.2 nx_11 (by omega) hN dL_law_978 ?_
    refine lv_aload_n hx hb dL_law_979 rfl (lv_at hl 6 rfl) ?_
    refine lv_iload hx hb dL_law_980 (lv_at hl 1 rfl) ?_
    refine lv_iconst (v := 3) hx hb dL_law_982 (by decide) ?_
    refine lv_iadd hx hb dL_law_983 ?_
    refine lv_topi (fun x_12 ex_12 => ?_)
    have nx_12 : x_12 = nI (i + 3) := ex_12.trans ((congr (congrArg (fun u v : Int32 => u + v) hxi) (rfl : (3 : Int32) = nI 3)).trans (nI_add _ _))
    refine lw_sld (i := i) (k := 3) hx hb hX hbl hLw1.1.2.2 nx_12 (by omega) hN dL_law_984 ?_
    refine lv_aload_n hx hb dL_law_985 rfl (lv_at hl 6 rfl) ?_
    refine lv_iload hx hb dL_law_986 (lv_at hl 1 rfl) ?_
    refine lv_iconst (v := 4) hx hb dL_law_988 (by decide) ?_
    refine lv_iadd hx hb dL_law_989 ?_
    refine lv_topi (fun x_13 ex_13 => ?_)
    have nx_13 : x_13 = nI (i + 4) := ex_13.trans ((congr (congrArg (fun u v : Int32 => u + v) hxi) (rfl : (4 : Int32) = nI 4)).trans (nI_add _ _))
    refine lw_sld (i := i) (k := 4) hx hb hX hbl hLw1.1.2.2 nx_13 (by omega) hN dL_law_990 ?_
    refine lv_if_eq (tgt := 998) hx hb dL_law_991 (by decide) (fun z => absurd z c4) (fun _ => ?_)
    refine lv_iconst (v := 1) hx hb dL_law_994 (by decide) ?_
    refine lv_goto (tgt := 999) hx hb dL_law_995 (by decide) ?_
    refine wL_callM (va_runV (As := [.int (xs (i + 1)), .int (xs (i + 2)), .int (xs (i + 3)), .int 1]) (rest := []) ⟨hx, hb, hml, hown, hts⟩ (m_X2_settle l hm0 hmr hI.1 ht1 (xs (i + 1)) (xs (i + 2)) (xs (i + 3)) (true)) (cwV 4 hts gL_law_X2_settle rfl rfl rfl (by decide +kernel) ⟨Nat.le_of_ble_eq_true rfl, Nat.le_of_ble_eq_true rfl⟩) (wy_pVW hK hLw1.2.1 hm0.1 rfl) rfl rfl hl.1 rfl (lv_room (Nat.le_of_ble_eq_true rfl)) dL_law_999 ⟨(show cells + 4 + 0 ≤ 601024 by omega), (show slots + 24 + 0 ≤ 7293034 by omega)⟩) hLw1 hA (fun r L9 f9 h9 => h9.2.1) (fun r1 fm1 H locs hpm hLw2 => ?_)
    obtain ⟨er, -, h0, h1, h2, h3, h4, h5, h6, h7, h8, h9, hm1, hmr1⟩ := hpm
    subst er
    refine lv_istore (lv' := [(7, .int (if (slC n (xs (i + 1)) (xs (i + 2)) (xs (i + 3)) (!rdp (rr (ix (xs (i + 1)))) (ix (xs (i + 2))) || rse (rr (ix (xs (i + 1)))) (ix (xs (i + 2))))) = 0 then (rfv (rr (ix (xs (i + 1)))) (ix (xs (i + 2))) (xs (i + 3))) else 0)), (6, .int (slC n (xs (i + 1)) (xs (i + 2)) (xs (i + 3)) (!rdp (rr (ix (xs (i + 1)))) (ix (xs (i + 2))) || rse (rr (ix (xs (i + 1)))) (ix (xs (i + 2)))))), (5, .int xi), (4, .ref od), (3, .ref oo), (2, .ref om), (1, .ref ox), (0, .ref b)]) hx hb dL_law_1002 hl (by decide) rfl (fun ls hl => ?_)
    refine lv_aload_n hx hb dL_law_1004 rfl (lv_at hl 5 rfl) ?_
    refine vp_callSi (W.runV (As := []) (rest := []) ⟨hx, hb, hml, hown, hts⟩ (m_X2_thrown0 l hm1) (cwV 0 hts gL_law_X2_thrown rfl rfl rfl (by decide +kernel) ⟨Nat.le_of_ble_eq_true rfl, Nat.le_of_ble_eq_true rfl⟩) (wy_pVR hK hLw2.2.1.1 hm1.1 rfl) rfl rfl hl.1 rfl (lv_room (Nat.le_of_ble_eq_true rfl)) dL_law_1005 ⟨(show cells + 4 + 0 + 0 ≤ 601024 by omega), (show slots + 24 + 0 + 0 ≤ 7293034 by omega)⟩) (fun r2 er2 => ?_)
    subst er2
    refine lv_iload hx hb dL_law_1008 (lv_at hl 1 rfl) ?_
    refine lv_icmp_eq (tgt := 1015) hx hb dL_law_1010 (by decide) (fun _ => ?_) (fun z => absurd rfl z)
    refine lv_iload hx hb dL_law_1015 (lv_at hl 1 rfl) ?_
    refine lv_if_ne (tgt := 1032) hx hb dL_law_1017 (by decide) (fun cT => ?_) (fun cT => ?_)
    · simp only [if_neg cT] at hm1 hmr1
      obtain ⟨rfl, rfl⟩ := hp1 cT
      refine lv_goto (tgt := 1636) hx hb dL_law_1032 (by decide) ?_
      exact KK _ _ _ _ _ ⟨L1, f1, Lm, fm1, fo1, fd, lo, ra, ar, ma, n, km, mn, wk, po, rr, _, h0, h1, h2, h3, h4, h5, h6, h7, h8, h9, hLw2, hq, hm1, hmr1, hI.same⟩ (by omega) (by omega) (lv_sub hl [2, 3, 4, 5, 6, 7] rfl)
    · simp only [if_pos cT] at hm1 hmr1
      obtain ⟨hv, ra2, ar2, hS⟩ := hp0 cT
      refine lv_aload_n hx hb dL_law_1020 rfl (lv_at hl 4 rfl) ?_
      refine lv_iconst (v := 0) hx hb dL_law_1021 (by decide) ?_
      refine lw_lald hx hb hK hLw2 dL_law_1022 ?_
      rw [hv]
      refine lv_iload hx hb dL_law_1023 (lv_at hl 0 rfl) ?_
      refine lv_i2l (v := (if (slC n (xs (i + 1)) (xs (i + 2)) (xs (i + 3)) (!rdp (rr (ix (xs (i + 1)))) (ix (xs (i + 2))) || rse (rr (ix (xs (i + 1)))) (ix (xs (i + 2))))) = 0 then (rfv (rr (ix (xs (i + 1)))) (ix (xs (i + 2))) (xs (i + 3))) else 0).toInt64) hx hb dL_law_1025 rfl ?_
      refine W.lcmp hx hb dL_law_1026 ?_
      rw [if_pos cT, lg_cmp_self]
      refine lv_if_eq (tgt := 1032) hx hb dL_law_1027 (by decide) (fun _ => ?_) (fun z => absurd rfl z)
      refine lv_goto (tgt := 1636) hx hb dL_law_1032 (by decide) ?_
      exact KK _ _ _ _ _ ⟨L1, f1, Lm, fm1, fo1, fd, lo, ra2, ar2, ma, _, _, _, _, _, _, _, h0, h1, h2, h3, h4, h5, h6, h7, h8, h9, hLw2, hS, hm1, hmr1, st_settle hI cT⟩ (by omega) (by omega) (lv_sub hl [2, 3, 4, 5, 6, 7] rfl)
theorem wf_d64 {n : Nat} (h : n % 9223372036854775808 ≤ 9218868437227405312) : FP.Core.decode FP.Core.b64 ((UInt64.ofNat n).toNat) ≠ .nan := by
  rw [UInt64.toNat_ofNat']
  have h3 : FP.Core.b64.tails = 4503599627370496 := by decide +kernel
  have h4 : FP.Core.b64.exps = 2048 := by decide +kernel
  unfold FP.Core.decode
  simp only [FP.Core.fieldE, FP.Core.fieldT, h3, h4]
  split
  · rw [if_pos (by omega)]; exact fun z => by cases z
  · split <;> exact fun z => by cases z
theorem wf_ord {d : FP.Core.Datum} (h : d ≠ .nan) : FP.Core.order d d = some .eq := by
  cases d with
  | nan => exact absurd rfl h
  | inf s => simp [FP.Core.order, compare, compareOfLessAndEq]
  | fin s c q => simp [FP.Core.order, compare, compareOfLessAndEq]
theorem mean_o (a : Int32) {c : Nat} (h0 : c ≠ 0) (h : c ≤ 40) : FP.Core.order (FP.Core.decode FP.Core.b64 (FP.f2d (mean a c)).toNat) (FP.Core.decode FP.Core.b64 (FP.f2d (mean a c)).toNat) = some .eq := by
  refine wf_ord ?_
  have h1 : FP.Core.decode FP.Core.b32 (mean a c).toNat ≠ .nan := wf_d32 (wf_q a h0 h)
  have h2 : FP.Core.fIsNaN (mean a c) = false := decide_eq_false h1
  unfold FP.f2d
  rw [h2]
  refine wf_d64 ?_
  unfold FP.Core.convert
  cases ha : FP.Core.decode FP.Core.b32 (mean a c).toNat with
  | nan => exact absurd ha h1
  | inf s => exact wf_i64 _
  | fin s k q => exact wf_R64 _ _ _ _
theorem mean_e (a : Int32) {c : Nat} {op : CmpOp} (h0 : c ≠ 0) (h : c ≤ 40) : Op.cmpValue (FP.dcmp (FP.f2d (mean a c)) (FP.f2d (mean a c))) op = 0 := by
  show Op.cmpValue (FP.Core.order (FP.Core.decode FP.Core.b64 (FP.f2d (mean a c)).toNat) (FP.Core.decode FP.Core.b64 (FP.f2d (mean a c)).toNat)) op = 0
  rw [mean_o a h0 h]; cases op <;> rfl
set_option maxHeartbeats 4000000 in
set_option maxRecDepth 100000 in
theorem lw_averageCharge (l : Launch) {G : wy_G} {p : Program} {e : Env} {s : State} {m : MethodId} {below : List Frame} {meth : Method} {c : Code} {H : Heap} {locs : List Loc} {cells slots b N ox om oo od t i : Nat} {xs : Nat → Int32} {Q : State → Prop} {ls : Array Slot} {xi : Int32} (C0 : lwC G p l s m meth c b N xs) (hW : lwW G s ox om oo od t H locs) (hit : i = 5 * t) (hiN : i + 5 ≤ N) (hN : N ≤ 2560) (hl : lv_has ls 8 [(5, .int xi), (4, .ref od), (3, .ref oo), (2, .ref om), (1, .ref ox), (0, .ref b)]) (hxi : xi = nI i) (hc : cells ≤ 100 + 10 * t) (hsl : slots ≤ 6000 + 200 * t) (KK : ∀ (H1 : Heap) (locs1 : List Loc) (cells1 slots1 : Nat) (ls1 : Array Slot), lwW G s ox om oo od (t + 1) H1 locs1 → cells1 ≤ 100 + 10 * (t + 1) → slots1 ≤ 6000 + 200 * (t + 1) → lv_has ls1 8 [(5, .int xi), (4, .ref od), (3, .ref oo), (2, .ref om), (1, .ref ox), (0, .ref b)] → W p l e room_1 s m #[.ref b] below meth c H1 locs1 cells1 slots1 Q (F0 m 1636 ls1 [])) : W p l e room_1 s m #[.ref b] below meth c H locs cells slots Q (F0 m 1558 ls []) := by
  obtain ⟨hx, hb, hml, hown, hts, hX, hbl, hK, hE, hZ, hNc, hnt⟩ := C0
  obtain ⟨L, f, Lm, fm, fo, fd, lo, ra, ar, ma, n, km, mn, wk, po, rr, th, g0, g1, g2, g3, g4, g5, g6, g7, g8, g9, hLw, hq, hm0, hmr, hI⟩ := hW
  have hA : ∀ q, s.heap.size ≤ q → lwA s q := fun q h => h
  have ht1 : t + 1 ≤ 512 := by omega
  refine lv_aload_n hx hb dL_law_1558 rfl (lv_at hl 4 rfl) ?_
  refine lv_aload_n hx hb dL_law_1559 rfl (lv_at hl 5 rfl) ?_
  refine lv_iload hx hb dL_law_1560 (lv_at hl 0 rfl) ?_
  refine lv_iconst (v := 1) hx hb dL_law_1562 (by decide) ?_
  refine lv_iadd hx hb dL_law_1563 ?_
  refine lv_topi (fun x_1 ex_1 => ?_)
  have nx_1 : x_1 = nI (i + 1) := ex_1.trans ((congr (congrArg (fun u v : Int32 => u + v) hxi) (rfl : (1 : Int32) = nI 1)).trans (nI_add _ _))
  refine lw_sld (i := i) (k := 1) hx hb hX hbl hLw.1.2.2 nx_1 (by omega) hN dL_law_1564 ?_
  refine lv_aload hx hb dL_law_1565 (lv_at hl 1 rfl) ?_
  refine wL_callD (vx_runSX (As := [.ref ox, .int (xs (i + 1)), .ref od]) (rest := []) ⟨hx, hb, hml, hown, hts⟩ (m_L_averageCharge l hnt hq (xs (i + 1))) (vx_cwSW 3 hts gL_law_L_averageCharge rfl rfl rfl (by decide +kernel) ⟨Nat.le_of_ble_eq_true rfl, Nat.le_of_ble_eq_true rfl⟩) (wL_preD hK hE hZ hNc hLw hA) rfl rfl hl.1 rfl (lv_room (Nat.le_of_ble_eq_true rfl)) dL_law_1567 ⟨(show cells + 2 ≤ 601024 by omega), (show slots + 12 ≤ 7293034 by omega)⟩) hLw hA (fun C1 L1 f1 fd1 H locs hp hLw1 => ?_)
  obtain ⟨rfl, hp0, hp1⟩ := hp
  refine lv_istore (lv' := [(6, .int (avC rr n (xs (i + 1)))), (5, .int xi), (4, .ref od), (3, .ref oo), (2, .ref om), (1, .ref ox), (0, .ref b)]) hx hb dL_law_1570 hl (by decide) rfl (fun ls hl => ?_)
  refine lv_aload_n hx hb dL_law_1572 rfl (lv_at hl 4 rfl) ?_
  refine lv_aload_n hx hb dL_law_1573 rfl (lv_at hl 6 rfl) ?_
  refine lv_iload hx hb dL_law_1574 (lv_at hl 1 rfl) ?_
  refine lv_iconst (v := 1) hx hb dL_law_1576 (by decide) ?_
  refine lv_iadd hx hb dL_law_1577 ?_
  refine lv_topi (fun x_2 ex_2 => ?_)
  have nx_2 : x_2 = nI (i + 1) := ex_2.trans ((congr (congrArg (fun u v : Int32 => u + v) hxi) (rfl : (1 : Int32) = nI 1)).trans (nI_add _ _))
  refine lw_sld (i := i) (k := 1) hx hb hX hbl hLw1.1.2.2 nx_2 (by omega) hN dL_law_1578 ?_
  refine wL_callM (va_runV (As := [.int (xs (i + 1))]) (rest := []) ⟨hx, hb, hml, hown, hts⟩ (m_X2_averageCharge l hm0 hmr hI.1 ht1 (xs (i + 1))) (cwV 1 hts gL_law_X2_averageCharge rfl rfl rfl (by decide +kernel) ⟨Nat.le_of_ble_eq_true rfl, Nat.le_of_ble_eq_true rfl⟩) (wy_pVW hK hLw1.2.1 hm0.1 rfl) rfl rfl hl.1 rfl (lv_room (Nat.le_of_ble_eq_true rfl)) dL_law_1579 ⟨(show cells + 2 + 0 ≤ 601024 by omega), (show slots + 12 + 0 ≤ 7293034 by omega)⟩) hLw1 hA (fun r L9 f9 h9 => h9.2.1) (fun r1 fm1 H locs hpm hLw2 => ?_)
  obtain ⟨er, -, h0, h1, h2, h3, h4, h5, h6, h7, h8, h9, hm1, hmr1⟩ := hpm
  subst er
  refine lv_fstore (lv' := [(7, .float (if (avC rr n (xs (i + 1))) = 0 then (mean (avsS rr n (ix (xs (i + 1)))) (avcS rr n (ix (xs (i + 1))))) else 0)), (6, .int (avC rr n (xs (i + 1)))), (5, .int xi), (4, .ref od), (3, .ref oo), (2, .ref om), (1, .ref ox), (0, .ref b)]) hx hb dL_law_1582 hl (by decide) rfl (fun ls hl => ?_)
  refine lv_aload_n hx hb dL_law_1584 rfl (lv_at hl 5 rfl) ?_
  refine vp_callSi (W.runV (As := []) (rest := []) ⟨hx, hb, hml, hown, hts⟩ (m_X2_thrown0 l hm1) (cwV 0 hts gL_law_X2_thrown rfl rfl rfl (by decide +kernel) ⟨Nat.le_of_ble_eq_true rfl, Nat.le_of_ble_eq_true rfl⟩) (wy_pVR hK hLw2.2.1.1 hm1.1 rfl) rfl rfl hl.1 rfl (lv_room (Nat.le_of_ble_eq_true rfl)) dL_law_1585 ⟨(show cells + 2 + 0 + 0 ≤ 601024 by omega), (show slots + 12 + 0 + 0 ≤ 7293034 by omega)⟩) (fun r2 er2 => ?_)
  subst er2
  refine lv_iload hx hb dL_law_1588 (lv_at hl 1 rfl) ?_
  refine lv_icmp_eq (tgt := 1595) hx hb dL_law_1590 (by decide) (fun _ => ?_) (fun z => absurd rfl z)
  refine lv_iload hx hb dL_law_1595 (lv_at hl 1 rfl) ?_
  refine lv_if_ne (tgt := 1633) hx hb dL_law_1597 (by decide) (fun cT => ?_) (fun cT => ?_)
  · skip
    obtain ⟨rfl, rfl⟩ := hp1 cT
    refine lv_goto (tgt := 1636) hx hb dL_law_1633 (by decide) ?_
    exact KK _ _ _ _ _ ⟨L1, f1, Lm, fm1, fo, fd1, lo, ra, ar, ma, n, km, mn, wk, po, rr, _, h0, h1, h2, h3, h4, h5, h6, h7, h8, h9, hLw2, hq, hm1, hmr1, hI.same⟩ (by omega) (by omega) (lv_sub hl [2, 3, 4, 5, 6, 7] rfl)
  · skip
    obtain ⟨hv, ra2, ar2, hS⟩ := hp0 cT
    refine lv_aload hx hb dL_law_1600 (lv_at hl 3 rfl) ?_
    refine lv_iconst (v := 0) hx hb dL_law_1602 (by decide) ?_
    refine lw_dald hx hb hK hLw2 dL_law_1603 ?_
    rw [hv]
    refine lv_fload hx hb dL_law_1604 (lv_at hl 0 rfl) ?_
    rw [if_pos cT]
    refine lv_f2d hx hb dL_law_1606 (mean_d _ (avC_0 cT) (Nat.le_trans (avcS_le _ _ _) hI.2.2.1)) ?_
    refine lv_dcmp hx hb dL_law_1607 ?_
    rw [mean_e _ (avC_0 cT) (Nat.le_trans (avcS_le _ _ _) hI.2.2.1)]
    refine lv_if_eq (tgt := 1633) hx hb dL_law_1608 (by decide) (fun _ => ?_) (fun z => absurd rfl z)
    refine lv_goto (tgt := 1636) hx hb dL_law_1633 (by decide) ?_
    exact KK _ _ _ _ _ ⟨L1, f1, Lm, fm1, fo, fd1, lo, ra2, ar2, ma, _, _, _, _, _, _, _, h0, h1, h2, h3, h4, h5, h6, h7, h8, h9, hLw2, hS, hm1, hmr1, hI.same⟩ (by omega) (by omega) (lv_sub hl [2, 3, 4, 5, 6, 7] rfl)
