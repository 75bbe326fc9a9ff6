set_option maxHeartbeats 4000000 in
/-- the law's loop: hfin is its end with 1 -/
theorem lw_loop (l : Launch) {G : wy_G} {p : Program} {e : Env} {s : State} {m : MethodId} {below : List Frame} {meth : Method} {c : Code} {b N ox om oo od : Nat} {xs : Nat → Int32} {Q : State → Prop} (C0 : lwC G p l s m meth c b N xs) (hN : N ≤ 2560)
    (hfin : ∀ (H : Heap) (locs : List Loc) (cells slots : Nat) (ls : Array Slot), (∀ q ∈ locs, s.heap.size ≤ q.base) → cells ≤ 601024 → slots ≤ 7293034 → W p l e room_1 s m #[.ref b] below meth c H locs cells slots Q (F0 m 1642 ls [])) :
    ∀ (d t : Nat) (H : Heap) (locs : List Loc) (cells slots : Nat) (ls : Array Slot) (xi : Int32), N < 5 * t + 5 * d + 5 → 5 * t ≤ N → lwW G s ox om oo od t H locs → xi = nI (5 * t) → cells ≤ 100 + 10 * t → slots ≤ 6000 + 200 * t → lv_has ls 8 [(5, .int xi), (4, .ref od), (3, .ref oo), (2, .ref om), (1, .ref ox), (0, .ref b)] → W p l e room_1 s m #[.ref b] below meth c H locs cells slots Q (F0 m 28 ls []) := by
  obtain ⟨hx, hb, hml, hown, hts, hX, hbl, hK, hE, hZ, hNc, hnt⟩ := id C0
  intro d
  induction d with
  | zero =>
    intro t H locs cells slots ls xi hd ht hW hxi hc hsl hl
    have hS : va_S (lwA s) s.heap H locs := by
      obtain ⟨L, f, Lm, fm, fo, fd, lo, ra, ar, ma, n, km, mn, wk, po, rr, th, g0, g1, g2, g3, g4, g5, g6, g7, g8, g9, hLw, hq, hm0, hmr, hI⟩ := id hW
      exact hLw.1.2.2
    refine lv_iload hx hb dL_law_28 (lv_at hl 0 rfl) ?_
    refine lv_aload_n hx hb dL_law_30 rfl (lv_at hl 5 rfl) ?_
    refine va_slen hx hb hX hbl (fun z => absurd hbl (Nat.not_lt.mpr z)) hS dL_law_31 ?_
    refine lv_iconst (v := 5) hx hb dL_law_32 (by decide) ?_
    refine lv_isub hx hb dL_law_33 ?_
    refine lv_icmp_gt (tgt := 1642) hx hb dL_law_34 (by decide) (fun cT => ?_) (fun cT => ?_)
    · exact hfin _ _ _ _ _ hS.2.2 (by omega) (by omega)
    · exfalso
      apply cT
      show nI N - nI 5 < xi
      rw [hxi, Int32.lt_iff_toInt_lt, pk_sub_toInt (by omega) (by decide), nI_toInt (by omega)]
      omega
  | succ d ih =>
    intro t H locs cells slots ls xi hd ht hW hxi hc hsl hl
    have hS : va_S (lwA s) s.heap H locs := by
      obtain ⟨L, f, Lm, fm, fo, fd, lo, ra, ar, ma, n, km, mn, wk, po, rr, th, g0, g1, g2, g3, g4, g5, g6, g7, g8, g9, hLw, hq, hm0, hmr, hI⟩ := id hW
      exact hLw.1.2.2
    refine lv_iload hx hb dL_law_28 (lv_at hl 0 rfl) ?_
    refine lv_aload_n hx hb dL_law_30 rfl (lv_at hl 5 rfl) ?_
    refine va_slen hx hb hX hbl (fun z => absurd hbl (Nat.not_lt.mpr z)) hS dL_law_31 ?_
    refine lv_iconst (v := 5) hx hb dL_law_32 (by decide) ?_
    refine lv_isub hx hb dL_law_33 ?_
    refine lv_icmp_gt (tgt := 1642) hx hb dL_law_34 (by decide) (fun cT => ?_) (fun cT => ?_)
    · exact hfin _ _ _ _ _ hS.2.2 (by omega) (by omega)
    · have h5 : 5 * t + 5 ≤ N := by
        apply Nat.le_of_not_lt
        intro z
        apply cT
        show nI N - nI 5 < xi
        rw [hxi, Int32.lt_iff_toInt_lt, pk_sub_toInt (by omega) (by decide), nI_toInt (by omega)]
        omega
      refine lw_disp l C0 hW rfl h5 hN hl hxi hc hsl (fun H1 locs1 cells1 slots1 ls1 hW1 hc1 hs1 hl1 => ?_)
      obtain ⟨y, ey⟩ : ∃ y : Int32, y = xi + 5 := ⟨_, rfl⟩
      refine lv_iinc (v := y) (lv' := [(5, .int y), (4, .ref od), (3, .ref oo), (2, .ref om), (1, .ref ox), (0, .ref b)]) hx hb dL_law_1636 hl1 (k := 0) rfl (by rw [ey]; rfl) (by decide) rfl (fun ls hl => ?_)
      refine lv_goto (tgt := 28) hx hb dL_law_1639 (by decide) ?_
      refine ih (t + 1) _ _ _ _ _ y (by omega) (by omega) hW1 ?_ hc1 hs1 hl
      rw [ey, hxi]
      exact nI_add (5 * t) 5
