theorem and31 (x : Int32) : ∃ j : Nat, j < 32 ∧ x &&& 31 = nI j := by
  refine ⟨(x &&& 31).toBitVec.toNat, ?_, ?_⟩
  · rw [Int32.toBitVec_and, BitVec.toNat_and]
    exact Nat.lt_of_le_of_lt Nat.and_le_right (by decide)
  · apply Int32.toBitVec_inj.mp
    show _ = BitVec.ofNat 32 _
    simp
set_option maxHeartbeats 4000000 in
/-- one call of the script -/
theorem lw_disp (l : Launch) {G : wy_G} {p : Program} {e : Env} {s : State} {m : MethodId} {below : List Frame} {meth : Method} {c : Code} {H : Heap} {locs : List Loc} {cells slots b N ox om oo od t i : Nat} {xs : Nat → Int32} {Q : State → Prop} {ls : Array Slot} {xi : Int32} (C0 : lwC G p l s m meth c b N xs) (hW : lwW G s ox om oo od t H locs) (hit : i = 5 * t) (hiN : i + 5 ≤ N) (hN : N ≤ 2560) (hl : lv_has ls 8 [(5, .int xi), (4, .ref od), (3, .ref oo), (2, .ref om), (1, .ref ox), (0, .ref b)]) (hxi : xi = nI i) (hc : cells ≤ 100 + 10 * t) (hsl : slots ≤ 6000 + 200 * t) (KK : ∀ (H1 : Heap) (locs1 : List Loc) (cells1 slots1 : Nat) (ls1 : Array Slot), lwW G s ox om oo od (t + 1) H1 locs1 → cells1 ≤ 100 + 10 * (t + 1) → slots1 ≤ 6000 + 200 * (t + 1) → lv_has ls1 8 [(5, .int xi), (4, .ref od), (3, .ref oo), (2, .ref om), (1, .ref ox), (0, .ref b)] → W p l e room_1 s m #[.ref b] below meth c H1 locs1 cells1 slots1 Q (F0 m 1636 ls1 [])) : W p l e room_1 s m #[.ref b] below meth c H locs cells slots Q (F0 m 37 ls []) := by
  obtain ⟨hx, hb, hml, hown, hts, hX, hbl, hK, hE, hZ, hNc, hnt⟩ := id C0
  have hS : va_S (lwA s) s.heap H locs := by
    obtain ⟨L, f, Lm, fm, fo, fd, lo, ra, ar, ma, n, km, mn, wk, po, rr, th, g0, g1, g2, g3, g4, g5, g6, g7, g8, g9, hLw, hq, hm0, hmr, hI⟩ := id hW
    exact hLw.1.2.2
  refine lv_aload_n hx hb dL_law_37 rfl (lv_at hl 5 rfl) ?_
  refine lv_iload hx hb dL_law_38 (lv_at hl 0 rfl) ?_
  refine lw_sld (i := i) (k := 0) hx hb hX hbl hS hxi (by omega) hN dL_law_40 ?_
  refine lv_bipush (v := 31) hx hb dL_law_41 (by decide) ?_
  refine lv_iand hx hb dL_law_43 ?_
  obtain ⟨j, hj, ej⟩ := and31 (xs (i + 0))
  rw [ej]
  clear ej
  rcases Nat.lt_or_ge j 25 with h | h
  · match j, h with
    | 0, _ => exact lv_tableIn (off := 116) (tgt := 160) hx hb dL_law_44 (by decide) (by decide) (by decide +kernel) (by decide) (lw_setRates l C0 hW hit hiN hN hl hxi hc hsl KK)
    | 1, _ => exact lv_tableIn (off := 164) (tgt := 208) hx hb dL_law_44 (by decide) (by decide) (by decide +kernel) (by decide) (lw_start l C0 hW hit hiN hN hl hxi hc hsl KK)
    | 2, _ => exact lv_tableIn (off := 220) (tgt := 264) hx hb dL_law_44 (by decide) (by decide) (by decide +kernel) (by decide) (lw_book l C0 hW hit hiN hN hl hxi hc hsl KK)
    | 3, _ => exact lv_tableIn (off := 288) (tgt := 332) hx hb dL_law_44 (by decide) (by decide) (by decide +kernel) (by decide) (lw_cancel l C0 hW hit hiN hN hl hxi hc hsl KK)
    | 4, _ => exact lv_tableIn (off := 356) (tgt := 400) hx hb dL_law_44 (by decide) (by decide) (by decide +kernel) (by decide) (lw_board l C0 hW hit hiN hN hl hxi hc hsl KK)
    | 5, _ => exact lv_tableIn (off := 424) (tgt := 468) hx hb dL_law_44 (by decide) (by decide) (by decide +kernel) (by decide) (lw_leave l C0 hW hit hiN hN hl hxi hc hsl KK)
    | 6, _ => exact lv_tableIn (off := 492) (tgt := 536) hx hb dL_law_44 (by decide) (by decide) (by decide +kernel) (by decide) (lw_drive l C0 hW hit hiN hN hl hxi hc hsl KK)
    | 7, _ => exact lv_tableIn (off := 572) (tgt := 616) hx hb dL_law_44 (by decide) (by decide) (by decide +kernel) (by decide) (lw_finish l C0 hW hit hiN hN hl hxi hc hsl KK)
    | 8, _ => exact lv_tableIn (off := 628) (tgt := 672) hx hb dL_law_44 (by decide) (by decide) (by decide +kernel) (by decide) (lw_aboard l C0 hW hit hiN hN hl hxi hc hsl KK)
    | 9, _ => exact lv_tableIn (off := 684) (tgt := 728) hx hb dL_law_44 (by decide) (by decide) (by decide +kernel) (by decide) (lw_charge l C0 hW hit hiN hN hl hxi hc hsl KK)
    | 10, _ => exact lv_tableIn (off := 752) (tgt := 796) hx hb dL_law_44 (by decide) (by decide) (by decide +kernel) (by decide) (lw_isVoid l C0 hW hit hiN hN hl hxi hc hsl KK)
    | 11, _ => exact lv_tableIn (off := 815) (tgt := 859) hx hb dL_law_44 (by decide) (by decide) (by decide +kernel) (by decide) (lw_dispute l C0 hW hit hiN hN hl hxi hc hsl KK)
    | 12, _ => exact lv_tableIn (off := 883) (tgt := 927) hx hb dL_law_44 (by decide) (by decide) (by decide +kernel) (by decide) (lw_settle l C0 hW hit hiN hN hl hxi hc hsl KK)
    | 13, _ => exact lv_tableIn (off := 991) (tgt := 1035) hx hb dL_law_44 (by decide) (by decide) (by decide +kernel) (by decide) (lw_openDisputes l C0 hW hit hiN hN hl hxi hc hsl KK)
    | 14, _ => exact lv_tableIn (off := 1004) (tgt := 1048) hx hb dL_law_44 (by decide) (by decide) (by decide +kernel) (by decide) (lw_closeWeek l C0 hW hit hiN hN hl hxi hc hsl KK)
    | 15, _ => exact lv_tableIn (off := 1048) (tgt := 1092) hx hb dL_law_44 (by decide) (by decide) (by decide +kernel) (by decide) (lw_week l C0 hW hit hiN hN hl hxi hc hsl KK)
    | 16, _ => exact lv_tableIn (off := 1061) (tgt := 1105) hx hb dL_law_44 (by decide) (by decide) (by decide +kernel) (by decide) (lw_earnings l C0 hW hit hiN hN hl hxi hc hsl KK)
    | 17, _ => exact lv_tableIn (off := 1129) (tgt := 1173) hx hb dL_law_44 (by decide) (by decide) (by decide +kernel) (by decide) (lw_topUp l C0 hW hit hiN hN hl hxi hc hsl KK)
    | 18, _ => exact lv_tableIn (off := 1197) (tgt := 1241) hx hb dL_law_44 (by decide) (by decide) (by decide +kernel) (by decide) (lw_bonus l C0 hW hit hiN hN hl hxi hc hsl KK)
    | 19, _ => exact lv_tableIn (off := 1265) (tgt := 1309) hx hb dL_law_44 (by decide) (by decide) (by decide +kernel) (by decide) (lw_pay l C0 hW hit hiN hN hl hxi hc hsl KK)
    | 20, _ => exact lv_tableIn (off := 1333) (tgt := 1377) hx hb dL_law_44 (by decide) (by decide) (by decide +kernel) (by decide) (lw_balance l C0 hW hit hiN hN hl hxi hc hsl KK)
    | 21, _ => exact lv_tableIn (off := 1389) (tgt := 1433) hx hb dL_law_44 (by decide) (by decide) (by decide +kernel) (by decide) (lw_paid l C0 hW hit hiN hN hl hxi hc hsl KK)
    | 22, _ => exact lv_tableIn (off := 1445) (tgt := 1489) hx hb dL_law_44 (by decide) (by decide) (by decide +kernel) (by decide) (lw_spent l C0 hW hit hiN hN hl hxi hc hsl KK)
    | 23, _ => exact lv_tableIn (off := 1501) (tgt := 1545) hx hb dL_law_44 (by decide) (by decide) (by decide +kernel) (by decide) (lw_house l C0 hW hit hiN hN hl hxi hc hsl KK)
    | 24, _ => exact lv_tableIn (off := 1514) (tgt := 1558) hx hb dL_law_44 (by decide) (by decide) (by decide +kernel) (by decide) (lw_averageCharge l C0 hW hit hiN hN hl hxi hc hsl KK)
    | k + 25, h => exact absurd h (by omega)
  · refine lv_tableOut (tgt := 1636) hx hb dL_law_44 (Or.inr (by rw [nI_toInt (by omega)]; omega)) (by decide) ?_
    refine KK _ _ _ _ _ ?_ (by omega) (by omega) hl
    obtain ⟨L, f, Lm, fm, fo, fd, lo, ra, ar, ma, n, km, mn, wk, po, rr, th, g0, g1, g2, g3, g4, g5, g6, g7, g8, g9, hLw, hq, hm0, hmr, hI⟩ := hW
    exact ⟨L, f, Lm, fm, fo, fd, lo, ra, ar, ma, n, km, mn, wk, po, rr, th, g0, g1, g2, g3, g4, g5, g6, g7, g8, g9, hLw, hq, hm0, hmr, hI.same⟩
