theorem wR_tr {G : wy_G} {La : List Nat} {fa fa1 : Nat → va_E} {ad av ao af ag : Nat} {d v o fr g : Nat → Int32} (h : wR G La fa ad av ao af ag d v o fr g) (e : fa1 = fa) : wR G La fa1 ad av ao af ag d v o fr g := by rw [e]; exact h
theorem ge64 {x : Int32} {t : Nat} (e : x = nI t) (ht : t ≤ 100) : (64 : Int32) ≤ x ↔ 64 ≤ t := by rw [e]; exact nI_leI (a := 64) (by decide) (by omega)
theorem ewC_1 {wk : Nat} {p q : Int32} (h : okN 5 p = false) : ewC wk p q = 1 := by simp [ewC, h]
theorem ewC_2 {wk : Nat} {p q : Int32} (h : okN 5 p = true) (hq : ¬ 0 ≤ q) : ewC wk p q = 2 := by simp [ewC, h, rngB, hq]
theorem avC_1 {rr : Nat → wr_V} {n : Nat} {p : Int32} (h : okN 10 p = false) : avC rr n p = 1 := by simp [avC, h]
theorem dev_1 {C : Int32} {V : UInt32} (h : C = 1) : dev C V = 3253731328 := by rw [h]; rfl
theorem thirty_e {op : CmpOp} : Op.cmpValue (FP.fcmp 3253731328 3253731328) op = 0 := by cases op <;> decide +kernel
set_option maxHeartbeats 4000000 in
set_option maxRecDepth 100000 in
/-- THE LAW, behind the making of its own -/
theorem lq_rest (l : Launch) {G : wy_G} {p : Program} {e : Env} {s : State} {m : MethodId} {below : List Frame} {meth : Method} {c : Code} {b N : Nat} {xs : Nat → Int32} (hx : p.tables.exec = Jvm.exec) (hb : c.code = cL_law) (hr : meth.sig.returnType = ret) (hml : c.maxLocals = 9) (hown : s.vm.findClass RL = some m.cls) (hts : ∀ w ∈ wsL_law, w.before #[Value.ref b] s = true) (hlocks : meth.locks = false) (hX : wp_P b N xs s) (hNN : N ≤ 260) (hK : wy_K G s) (hE : wt_E (lwA s) s) (hZ : wl_E G (lwA s) s) (hN : wc_N s) (hnt : l.stackTraces = false)
    {ox lo ad av ao af ag : Nat} {La : List Nat} {L : List Nat} {f fa : Nat → va_E} {H : Heap} {locs : List Loc} {cells slots : Nat} {ls : Array Slot} (hw : wq_H G (lwA s) s.heap H locs L f La fa) (hZ0 : wZ G ox lo ad av ao af ag La 0 L f fa) (hc0 : cells ≤ 100) (hs0 : slots ≤ 1000) (hl : lv_has ls 9 [(1, .ref ox), (2, .ref ad), (3, .ref av), (4, .ref ao), (5, .ref af), (6, .ref ag), (0, .ref b)]) :
    W p l e room_1 s m #[Value.ref b] below meth c H locs cells slots (lw_Z below #[Value.ref b] s) (F0 m 47 ls []) := by
  have hA : ∀ q, s.heap.size ≤ q → lwA s q := fun _ h => h
  have hbA : ¬ lwA s b := fun z => absurd hX.2 (Nat.not_lt.mpr z)
  obtain ⟨ra, ar, n, km, mn, wk, po, rr, d, v, o, fr, g, hq, hR, hJ, hB⟩ := hZ0
  have hn20 : n ≤ 20 := hJ.2.1
  have hwk20 : wk ≤ 20 := hJ.2.2.1
  have hne := hR.2.2.2.2.2
  refine lv_aload_n hx hb dL_law_47 rfl (lv_at hl 0 rfl) ?_
  refine lv_aload_n hx hb dL_law_48 rfl (lv_at hl 1 rfl) ?_
  refine lv_aload hx hb dL_law_49 (lv_at hl 4 rfl) ?_
  refine lv_aload hx hb dL_law_51 (lv_at hl 5 rfl) ?_
  refine wq_call (va_runS (As := [.ref ox, .ref ad, .ref af, .ref ag]) (rest := []) ⟨hx, hb, hml, hown, hts⟩ (m_L_isMoney l hnt hq hR hJ hB (by omega)) (va_cwS 4 hts gL_law_L_isMoney rfl rfl rfl (by decide +kernel) ⟨Nat.le_of_ble_eq_true rfl, Nat.le_of_ble_eq_true rfl⟩) (wq_pre hK hE hZ hN hw hA) rfl rfl hl.1 rfl (lv_room (Nat.le_of_ble_eq_true rfl)) dL_law_53 ⟨(show cells + 32 ≤ 1200104 by omega), (show slots + 192 ≤ 5501314 by omega)⟩) hw hA (fun r_1 L_1 f_1 fa_1 H locs hp hw => ?_)
  obtain ⟨er, efa, ra, ar, hq⟩ := hp
  subst er
  replace hR := wR_tr hR efa
  refine lv_if_eq (tgt := 74) hx hb dL_law_56 (by decide) (fun c_2 => ?_) (fun c_2 => ?_)
  · exact absurd c_2 (by decide)
  · have bc_2 : (true) = true := bI_1 (fun z => c_2 (rfl.trans z))
    refine lv_aload_n hx hb dL_law_59 rfl (lv_at hl 0 rfl) ?_
    refine lv_aload_n hx hb dL_law_60 rfl (lv_at hl 1 rfl) ?_
    refine lv_aload_n hx hb dL_law_61 rfl (lv_at hl 2 rfl) ?_
    refine lv_aload hx hb dL_law_62 (lv_at hl 5 rfl) ?_
    refine wq_call (va_runS (As := [.ref ox, .ref ad, .ref av, .ref ag]) (rest := []) ⟨hx, hb, hml, hown, hts⟩ (m_L_areRides l hnt hq hR hJ hB (by omega)) (va_cwS 4 hts gL_law_L_areRides rfl rfl rfl (by decide +kernel) ⟨Nat.le_of_ble_eq_true rfl, Nat.le_of_ble_eq_true rfl⟩) (wq_pre hK hE hZ hN hw hA) rfl rfl hl.1 rfl (lv_room (Nat.le_of_ble_eq_true rfl)) dL_law_64 ⟨(show cells + 32 + 4 ≤ 1200104 by omega), (show slots + 192 + 24 ≤ 5501314 by omega)⟩) hw hA (fun r_3 L_3 f_3 fa_3 H locs hp hw => ?_)
    obtain ⟨er, efa, ra, ar, hq⟩ := hp
    subst er
    replace hR := wR_tr hR efa
    refine lv_if_eq (tgt := 74) hx hb dL_law_67 (by decide) (fun c_4 => ?_) (fun c_4 => ?_)
    · exact absurd c_4 (by decide)
    · have bc_4 : (true) = true := bI_1 (fun z => c_4 (rfl.trans z))
      refine lv_iconst (v := 1) hx hb dL_law_70 (by decide) ?_
      refine lv_goto (tgt := 75) hx hb dL_law_71 (by decide) ?_
      refine lv_istore (lv' := [(7, .int 1), (1, .ref ox), (2, .ref ad), (3, .ref av), (4, .ref ao), (5, .ref af), (6, .ref ag), (0, .ref b)]) hx hb dL_law_75 hl (by decide) rfl (fun ls hl => ?_)
      refine lv_iconst (v := 0) hx hb dL_law_77 (by decide) ?_
      refine lv_istore (lv' := [(8, .int 0), (7, .int 1), (1, .ref ox), (2, .ref ad), (3, .ref av), (4, .ref ao), (5, .ref af), (6, .ref ag), (0, .ref b)]) hx hb dL_law_78 hl (by decide) rfl (fun ls hl => ?_)
      have KK : ∀ (d9 t : Nat), t + d9 = 64 → ∀ (xi : Int32), xi = nI t → ∀ (H : Heap) (locs : List Loc) (L : List Nat) (f fa : Nat → va_E) (cc ss : Nat), wq_H G (lwA s) s.heap H locs L f La fa → wZ G ox lo ad av ao af ag La t L f fa → cc ≤ cells + 32 + 4 + 100 * t → ss ≤ slots + 192 + 24 + 1000 * t → ∀ ls : Array Slot, lv_has ls 9 [(8, .int xi), (7, .int 1), (1, .ref ox), (2, .ref ad), (3, .ref av), (4, .ref ao), (5, .ref af), (6, .ref ag), (0, .ref b)] → W p l e room_1 s m #[Value.ref b] below meth c H locs (cc) (ss) (lw_Z below #[Value.ref b] s) (F0 m 80 ls []) := by
        intro d9
        induction d9 with
        | zero =>
          intro t hd xi ei H locs L f fa cc ss hw hZ9 hcc hss ls hl
          obtain ⟨ra, ar, n, km, mn, wk, po, rr, d, v, o, fr, g, hq, hR, hJ, hB⟩ := hZ9
          have hn20 : n ≤ 20 := hJ.2.1
          have hwk20 : wk ≤ 20 := hJ.2.2.1
          refine lv_iload hx hb dL_law_80 (lv_at hl 0 rfl) ?_
          refine lv_bipush (v := 64) hx hb dL_law_82 (by decide) ?_
          refine lv_icmp_ge (tgt := 148) hx hb dL_law_84 (by decide) (fun _ => ?_) (fun z => absurd ((ge64 ei (by omega)).mpr (by omega)) z)
          refine lv_iload hx hb dL_law_148 (lv_at hl 1 rfl) ?_
          refine lv_if_eq (tgt := 256) hx hb dL_law_150 (by decide) (fun z => absurd z (by decide)) (fun _ => ?_)
          refine lv_aload_n hx hb dL_law_153 rfl (lv_at hl 2 rfl) ?_
          refine lv_iconst (v := 0) hx hb dL_law_154 (by decide) ?_
          refine lv_iconst (v := (-1)) hx hb dL_law_155 (by decide) ?_
          refine lv_iconst (v := 0) hx hb dL_law_156 (by decide) ?_
          refine lv_iconst (v := 0) hx hb dL_law_157 (by decide) ?_
          refine lv_iconst (v := 0) hx hb dL_law_158 (by decide) ?_
          have hC_5 : srC (-1) 0 = 1 := by exact by decide +kernel
          refine wq_call0 (vx_runSX (As := [.ref ox, .int 0, .int (-1), .int 0, .int 0, .int (bI false)]) (rest := []) ⟨hx, hb, hml, hown, hts⟩ (m_L_does_rates l hnt (fa := fa) hq ((-1)) (0) (0) (false)) (vx_cwSW 6 hts gL_law_L_does rfl rfl rfl (by decide +kernel) ⟨Nat.le_of_ble_eq_true rfl, Nat.le_of_ble_eq_true rfl⟩) (wq_pre0 hK hE hZ hN hw hA) rfl rfl hl.1 rfl (lv_room (Nat.le_of_ble_eq_true rfl)) dL_law_159 ⟨(show cc + 2 ≤ 1200104 by omega), (show ss + 12 ≤ 5501314 by omega)⟩) hw hA (fun r_5 L_5 f_5 fx_5 H locs hp hw => ?_)
          obtain ⟨er, hq⟩ := wd_er hp (by rw [hC_5]; decide) hq
          have er : r_5 = .int (-20) := er.trans (congrArg Value.int (by rw [hC_5]; decide))
          subst er
          refine lv_bipush (v := (-20)) hx hb dL_law_162 (by decide) ?_
          refine lv_icmp_ne (tgt := 256) hx hb dL_law_164 (by decide) (fun z => absurd z (by decide)) (fun _ => ?_)
          refine lv_aload_n hx hb dL_law_167 rfl (lv_at hl 2 rfl) ?_
          refine lv_iconst (v := 1) hx hb dL_law_168 (by decide) ?_
          refine lv_iconst (v := (-1)) hx hb dL_law_169 (by decide) ?_
          refine lv_iconst (v := 0) hx hb dL_law_170 (by decide) ?_
          refine lv_iconst (v := 0) hx hb dL_law_171 (by decide) ?_
          refine lv_iconst (v := 0) hx hb dL_law_172 (by decide) ?_
          have hC_6 : stC rr n (-1) = 1 := by exact stC_1 (by decide +kernel)
          refine wq_call0 (vx_runSX (As := [.ref ox, .int 1, .int (-1), .int 0, .int 0, .int (bI false)]) (rest := []) ⟨hx, hb, hml, hown, hts⟩ (m_L_does_start l hnt (fa := fa) hq ((-1)) (0) (0) (false)) (vx_cwSW 6 hts gL_law_L_does rfl rfl rfl (by decide +kernel) ⟨Nat.le_of_ble_eq_true rfl, Nat.le_of_ble_eq_true rfl⟩) (wq_pre0 hK hE hZ hN hw hA) rfl rfl hl.1 rfl (lv_room (Nat.le_of_ble_eq_true rfl)) dL_law_173 ⟨(show cc + 2 + 5 ≤ 1200104 by omega), (show ss + 12 + 100 ≤ 5501314 by omega)⟩) hw hA (fun r_6 L_6 f_6 fx_6 H locs hp hw => ?_)
          obtain ⟨er, hq⟩ := wd_er hp (by rw [hC_6]; decide) hq
          have er : r_6 = .int (-30) := er.trans (congrArg Value.int (by rw [hC_6]; decide))
          subst er
          refine lv_bipush (v := (-30)) hx hb dL_law_176 (by decide) ?_
          refine lv_icmp_ne (tgt := 256) hx hb dL_law_178 (by decide) (fun z => absurd z (by decide)) (fun _ => ?_)
          refine lv_aload_n hx hb dL_law_181 rfl (lv_at hl 2 rfl) ?_
          refine lv_bipush (v := 6) hx hb dL_law_182 (by decide) ?_
          refine lv_bipush (v := 40) hx hb dL_law_184 (by decide) ?_
          refine lv_bipush (v := 101) hx hb dL_law_186 (by decide) ?_
          refine lv_iconst (v := 0) hx hb dL_law_188 (by decide) ?_
          refine lv_iconst (v := 0) hx hb dL_law_189 (by decide) ?_
          have hC_7 : dvC n 40 101 0 (rfi (rr (ix 40))) = 1 := by exact dvC_1 (okN_out (n := n) (j := 40) (by omega) (by decide))
          refine wq_call0 (vx_runSX (As := [.ref ox, .int 6, .int 40, .int 101, .int 0, .int (bI false)]) (rest := []) ⟨hx, hb, hml, hown, hts⟩ (m_L_does_drive l hnt (fa := fa) hq (40) (101) (0) (false)) (vx_cwSW 6 hts gL_law_L_does rfl rfl rfl (by decide +kernel) ⟨Nat.le_of_ble_eq_true rfl, Nat.le_of_ble_eq_true rfl⟩) (wq_pre0 hK hE hZ hN hw hA) rfl rfl hl.1 rfl (lv_room (Nat.le_of_ble_eq_true rfl)) dL_law_190 ⟨(show cc + 2 + 5 + 4 ≤ 1200104 by omega), (show ss + 12 + 100 + 24 ≤ 5501314 by omega)⟩) hw hA (fun r_7 L_7 f_7 fx_7 H locs hp hw => ?_)
          obtain ⟨er, hq⟩ := wd_er hp (by rw [hC_7]; decide) hq
          have er : r_7 = .int (-30) := er.trans (congrArg Value.int (by rw [hC_7]; decide))
          subst er
          refine lv_bipush (v := (-30)) hx hb dL_law_193 (by decide) ?_
          refine lv_icmp_ne (tgt := 256) hx hb dL_law_195 (by decide) (fun z => absurd z (by decide)) (fun _ => ?_)
          refine lv_aload_n hx hb dL_law_198 rfl (lv_at hl 2 rfl) ?_
          refine lv_bipush (v := 9) hx hb dL_law_199 (by decide) ?_
          refine lv_bipush (v := 40) hx hb dL_law_201 (by decide) ?_
          refine lv_iconst (v := 0) hx hb dL_law_203 (by decide) ?_
          refine lv_bipush (v := 101) hx hb dL_law_204 (by decide) ?_
          refine lv_iconst (v := 1) hx hb dL_law_206 (by decide) ?_
          have hC_8 : slC n 40 0 101 (!rdp (rr (ix 40)) (ix 0) || rse (rr (ix 40)) (ix 0)) = 1 := by exact slC_1a (okN_out (n := n) (j := 40) (by omega) (by decide))
          refine wq_call0 (vx_runSX (As := [.ref ox, .int 9, .int 40, .int 0, .int 101, .int (bI true)]) (rest := []) ⟨hx, hb, hml, hown, hts⟩ (m_L_does_settle l hnt (fa := fa) hq (40) (0) (101) (true)) (vx_cwSW 6 hts gL_law_L_does rfl rfl rfl (by decide +kernel) ⟨Nat.le_of_ble_eq_true rfl, Nat.le_of_ble_eq_true rfl⟩) (wq_pre0 hK hE hZ hN hw hA) rfl rfl hl.1 rfl (lv_room (Nat.le_of_ble_eq_true rfl)) dL_law_207 ⟨(show cc + 2 + 5 + 4 + 4 ≤ 1200104 by omega), (show ss + 12 + 100 + 24 + 24 ≤ 5501314 by omega)⟩) hw hA (fun r_8 L_8 f_8 fx_8 H locs hp hw => ?_)
          obtain ⟨er, hq⟩ := wd_er hp (by rw [hC_8]; decide) hq
          have er : r_8 = .int (-30) := er.trans (congrArg Value.int (by rw [hC_8]; decide))
          subst er
          refine lv_bipush (v := (-30)) hx hb dL_law_210 (by decide) ?_
          refine lv_icmp_ne (tgt := 256) hx hb dL_law_212 (by decide) (fun z => absurd z (by decide)) (fun _ => ?_)
          refine lv_aload_n hx hb dL_law_215 rfl (lv_at hl 2 rfl) ?_
          refine lv_iconst (v := 3) hx hb dL_law_216 (by decide) ?_
          refine lv_iconst (v := 5) hx hb dL_law_217 (by decide) ?_
          refine lv_iconst (v := (-1)) hx hb dL_law_218 (by decide) ?_
          have hC_9 : ewC wk 5 (-1) = 1 := ewC_1 (by decide +kernel)
          refine wq_call0 (vx_runSX (As := [.ref ox, .int 3, .int 5, .int (-1)]) (rest := []) ⟨hx, hb, hml, hown, hts⟩ (m_L_asks_earnings l hnt (fa := fa) hq (5) ((-1)) (by rw [hC_9]; decide)) (vx_cwSW 4 hts gL_law_L_asks rfl rfl rfl (by decide +kernel) ⟨Nat.le_of_ble_eq_true rfl, Nat.le_of_ble_eq_true rfl⟩) (wq_pre0 hK hE hZ hN hw hA) rfl rfl hl.1 rfl (lv_room (Nat.le_of_ble_eq_true rfl)) dL_law_219 ⟨(show cc + 2 + 5 + 4 + 4 + 2 ≤ 1200104 by omega), (show ss + 12 + 100 + 24 + 24 + 12 ≤ 5501314 by omega)⟩) hw hA (fun r_9 L_9 f_9 fx_9 H locs hp hw => ?_)
          obtain ⟨er, eL, ef⟩ := hp
          replace hq := wx_tr hq eL ef
          have er : r_9 = .int (-1000000030) := er.trans (congrArg Value.int (by rw [hC_9]; decide))
          subst er
          refine lv_ldc (v := (-1000000030)) hx hb hown (hts (.constant RL 92 ((-1000000030))) (by decide +kernel)) dL_law_222 ?_
          refine lv_icmp_ne (tgt := 256) hx hb dL_law_224 (by decide) (fun z => absurd z (by decide)) (fun _ => ?_)
          refine lv_aload_n hx hb dL_law_227 rfl (lv_at hl 2 rfl) ?_
          refine lv_iconst (v := 4) hx hb dL_law_228 (by decide) ?_
          refine lv_iconst (v := 0) hx hb dL_law_229 (by decide) ?_
          refine lv_iconst (v := (-1)) hx hb dL_law_230 (by decide) ?_
          have hC_10 : ewC wk 0 (-1) = 2 := ewC_2 (by decide +kernel) (by decide)
          refine wq_call0 (vx_runSX (As := [.ref ox, .int 4, .int 0, .int (-1)]) (rest := []) ⟨hx, hb, hml, hown, hts⟩ (m_L_asks_topUp l hnt (fa := fa) hq (0) ((-1)) (by rw [hC_10]; decide)) (vx_cwSW 4 hts gL_law_L_asks rfl rfl rfl (by decide +kernel) ⟨Nat.le_of_ble_eq_true rfl, Nat.le_of_ble_eq_true rfl⟩) (wq_pre0 hK hE hZ hN hw hA) rfl rfl hl.1 rfl (lv_room (Nat.le_of_ble_eq_true rfl)) dL_law_231 ⟨(show cc + 2 + 5 + 4 + 4 + 2 + 2 ≤ 1200104 by omega), (show ss + 12 + 100 + 24 + 24 + 12 + 12 ≤ 5501314 by omega)⟩) hw hA (fun r_10 L_10 f_10 fx_10 H locs hp hw => ?_)
          obtain ⟨er, eL, ef⟩ := hp
          replace hq := wx_tr hq eL ef
          have er : r_10 = .int (-1000000020) := er.trans (congrArg Value.int (by rw [hC_10]; decide))
          subst er
          refine lv_ldc (v := (-1000000020)) hx hb hown (hts (.constant RL 93 ((-1000000020))) (by decide +kernel)) dL_law_234 ?_
          refine lv_icmp_ne (tgt := 256) hx hb dL_law_236 (by decide) (fun z => absurd z (by decide)) (fun _ => ?_)
          refine lv_aload_n hx hb dL_law_239 rfl (lv_at hl 2 rfl) ?_
          refine lv_bipush (v := 8) hx hb dL_law_240 (by decide) ?_
          refine lv_iconst (v := (-1)) hx hb dL_law_242 (by decide) ?_
          refine lv_iconst (v := 0) hx hb dL_law_243 (by decide) ?_
          have hC_11 : okC 5 (-1) = 1 := okC_m1 5
          refine wq_call0 (vx_runSX (As := [.ref ox, .int 8, .int (-1), .int 0]) (rest := []) ⟨hx, hb, hml, hown, hts⟩ (m_L_asks_paid l hnt (fa := fa) hq ((-1)) (0) (by rw [hC_11]; decide)) (vx_cwSW 4 hts gL_law_L_asks rfl rfl rfl (by decide +kernel) ⟨Nat.le_of_ble_eq_true rfl, Nat.le_of_ble_eq_true rfl⟩) (wq_pre0 hK hE hZ hN hw hA) rfl rfl hl.1 rfl (lv_room (Nat.le_of_ble_eq_true rfl)) dL_law_244 ⟨(show cc + 2 + 5 + 4 + 4 + 2 + 2 + 1 ≤ 1200104 by omega), (show ss + 12 + 100 + 24 + 24 + 12 + 12 + 6 ≤ 5501314 by omega)⟩) hw hA (fun r_11 L_11 f_11 fx_11 H locs hp hw => ?_)
          obtain ⟨er, eL, ef⟩ := hp
          replace hq := wx_tr hq eL ef
          have er : r_11 = .int (-1000000030) := er.trans (congrArg Value.int (by rw [hC_11]; decide))
          subst er
          refine lv_ldc (v := (-1000000030)) hx hb hown (hts (.constant RL 92 ((-1000000030))) (by decide +kernel)) dL_law_247 ?_
          refine lv_icmp_ne (tgt := 256) hx hb dL_law_249 (by decide) (fun z => absurd z (by decide)) (fun _ => ?_)
          refine lv_iconst (v := 1) hx hb dL_law_252 (by decide) ?_
          refine lv_goto (tgt := 257) hx hb dL_law_253 (by decide) ?_
          refine lv_istore (lv' := [(7, .int 1), (8, .int xi), (1, .ref ox), (2, .ref ad), (3, .ref av), (4, .ref ao), (5, .ref af), (6, .ref ag), (0, .ref b)]) hx hb dL_law_257 hl (by decide) rfl (fun ls hl => ?_)
          refine lv_iload hx hb dL_law_259 (lv_at hl 0 rfl) ?_
          refine lv_if_eq (tgt := 280) hx hb dL_law_261 (by decide) (fun z => absurd z (by decide)) (fun _ => ?_)
          refine lv_aload_n hx hb dL_law_264 rfl (lv_at hl 2 rfl) ?_
          refine lv_bipush (v := 10) hx hb dL_law_265 (by decide) ?_
          refine wq_call0 (vx_runSX (As := [.ref ox, .int 10]) (rest := []) ⟨hx, hb, hml, hown, hts⟩ (m_L_average l hnt (fa := fa) hq (10)) (vx_cwSW 2 hts gL_law_L_average rfl rfl rfl (by decide +kernel) ⟨Nat.le_of_ble_eq_true rfl, Nat.le_of_ble_eq_true rfl⟩) (wq_pre0 hK hE hZ hN hw hA) rfl rfl hl.1 rfl (lv_room (Nat.le_of_ble_eq_true rfl)) dL_law_267 ⟨(show cc + 2 + 5 + 4 + 4 + 2 + 2 + 1 + 2 ≤ 1200104 by omega), (show ss + 12 + 100 + 24 + 24 + 12 + 12 + 6 + 12 ≤ 5501314 by omega)⟩) hw hA (fun r_12 L_12 f_12 fx_12 H locs hp hw => ?_)
          obtain ⟨er, ra, ar, hq⟩ := hp
          have er : r_12 = .float 3253731328 := er.trans (congrArg Value.float (dev_1 (avC_1 (by decide +kernel))))
          subst er
          refine lv_ldcf (v := 3253731328) hx hb hown (hts (.constantFloat RL 98 (3253731328)) (by decide +kernel)) dL_law_270 ?_
          refine lv_fcmp hx hb dL_law_272 ?_
          refine lv_if_ne (tgt := 280) hx hb dL_law_273 (by decide) (fun z => absurd (thirty_e) z) (fun _ => ?_)
          refine lv_iconst (v := 1) hx hb dL_law_276 (by decide) ?_
          refine lv_goto (tgt := 281) hx hb dL_law_277 (by decide) ?_
          refine va_forget hw.1.2.2.2.2 ?_
          refine W.widen (k := 1200104) (n := 5501314) (show cc + 2 + 5 + 4 + 4 + 2 + 2 + 1 + 2 ≤ 1200104 by omega) (show ss + 12 + 100 + 24 + 24 + 12 + 12 + 6 + 12 ≤ 5501314 by omega) ?_
          refine W.base ?_
          exact lw_ret (d0 := s.drawn) (Drawn.sameBut.refl s.drawn lw_cs) hx hb hr hlocks dL_law_281
        | succ d9 ih =>
          intro t hd xi ei H locs L f fa cc ss hw hZ9 hcc hss ls hl
          obtain ⟨ra, ar, n, km, mn, wk, po, rr, d, v, o, fr, g, hq, hR, hJ, hB⟩ := hZ9
          have hn20 : n ≤ 20 := hJ.2.1
          have hwk20 : wk ≤ 20 := hJ.2.2.1
          refine lv_iload hx hb dL_law_80 (lv_at hl 0 rfl) ?_
          refine lv_bipush (v := 64) hx hb dL_law_82 (by decide) ?_
          refine lv_icmp_ge (tgt := 148) hx hb dL_law_84 (by decide) (fun z => absurd ((ge64 ei (by omega)).mp z) (by omega)) (fun _ => ?_)
          refine lv_iload hx hb dL_law_87 (lv_at hl 1 rfl) ?_
          refine lv_if_eq (tgt := 148) hx hb dL_law_89 (by decide) (fun z => absurd z (by decide)) (fun _ => ?_)
          refine lv_aload_n hx hb dL_law_92 rfl (lv_at hl 2 rfl) ?_
          refine lv_aload_n hx hb dL_law_93 rfl (lv_at hl 8 rfl) ?_
          refine lv_iconst (v := 4) hx hb dL_law_94 (by decide) ?_
          refine lv_iload hx hb dL_law_95 (lv_at hl 0 rfl) ?_
          refine lv_imul hx hb dL_law_97 ?_
          refine lv_topi (fun x_13 ex_13 => ?_)
          have nx_13 : x_13 = nI (4 * t) := ex_13.trans ((congr (congrArg (fun u v : Int32 => u * v) (rfl : (4 : Int32) = nI 4)) ei).trans (pk_mul _ _))
          refine lv_aload_n hx hb dL_law_98 rfl (lv_at hl 3 rfl) ?_
          refine lv_aload_n hx hb dL_law_99 rfl (lv_at hl 4 rfl) ?_
          refine lv_aload hx hb dL_law_100 (lv_at hl 5 rfl) ?_
          refine lv_aload hx hb dL_law_102 (lv_at hl 6 rfl) ?_
          refine lv_aload hx hb dL_law_104 (lv_at hl 7 rfl) ?_
          refine wq_call (va_runS (As := [.ref ox, .ref b, .int x_13, .ref ad, .ref av, .ref ao, .ref af, .ref ag]) (rest := []) ⟨hx, hb, hml, hown, hts⟩ (m_L_isDone l hnt hq hR hJ hB (by omega) hNN (x_13) (4 * t) (by omega) nx_13) (va_cwS 8 hts gL_law_L_isDone rfl rfl rfl (by decide +kernel) ⟨Nat.le_of_ble_eq_true rfl, Nat.le_of_ble_eq_true rfl⟩) (wq_pre2 hK hE hZ hN hw hA hX.1 hX.2 hbA) rfl rfl hl.1 rfl (lv_room (Nat.le_of_ble_eq_true rfl)) dL_law_106 ⟨(show cc + 8 ≤ 1200104 by omega), (show ss + 100 ≤ 5501314 by omega)⟩) hw hA (fun r_14 L_14 f_14 fa_14 H locs hp hw => ?_)
          obtain ⟨er, hZ9⟩ := hp
          subst er
          obtain ⟨ra, ar, n, km, mn, wk, po, rr, d, v, o, fr, g, hq, hR, hJ, hB⟩ := hZ9
          have hn20 : n ≤ 20 := hJ.2.1
          have hwk20 : wk ≤ 20 := hJ.2.2.1
          refine lv_if_eq (tgt := 139) hx hb dL_law_109 (by decide) (fun c_15 => ?_) (fun c_15 => ?_)
          · exact absurd c_15 (by decide)
          · have bc_15 : (true) = true := bI_1 (fun z => c_15 (rfl.trans z))
            refine lv_aload_n hx hb dL_law_112 rfl (lv_at hl 2 rfl) ?_
            refine lv_aload_n hx hb dL_law_113 rfl (lv_at hl 3 rfl) ?_
            refine lv_aload_n hx hb dL_law_114 rfl (lv_at hl 4 rfl) ?_
            refine lv_aload hx hb dL_law_115 (lv_at hl 7 rfl) ?_
            refine wq_call (va_runS (As := [.ref ox, .ref ad, .ref av, .ref ag]) (rest := []) ⟨hx, hb, hml, hown, hts⟩ (m_L_areRides l hnt hq hR hJ hB (by omega)) (va_cwS 4 hts gL_law_L_areRides rfl rfl rfl (by decide +kernel) ⟨Nat.le_of_ble_eq_true rfl, Nat.le_of_ble_eq_true rfl⟩) (wq_pre hK hE hZ hN hw hA) rfl rfl hl.1 rfl (lv_room (Nat.le_of_ble_eq_true rfl)) dL_law_117 ⟨(show cc + 8 + 4 ≤ 1200104 by omega), (show ss + 100 + 24 ≤ 5501314 by omega)⟩) hw hA (fun r_16 L_16 f_16 fa_16 H locs hp hw => ?_)
            obtain ⟨er, efa, ra, ar, hq⟩ := hp
            subst er
            replace hR := wR_tr hR efa
            refine lv_if_eq (tgt := 139) hx hb dL_law_120 (by decide) (fun c_17 => ?_) (fun c_17 => ?_)
            · exact absurd c_17 (by decide)
            · have bc_17 : (true) = true := bI_1 (fun z => c_17 (rfl.trans z))
              refine lv_aload_n hx hb dL_law_123 rfl (lv_at hl 2 rfl) ?_
              refine lv_aload_n hx hb dL_law_124 rfl (lv_at hl 3 rfl) ?_
              refine lv_aload hx hb dL_law_125 (lv_at hl 6 rfl) ?_
              refine lv_aload hx hb dL_law_127 (lv_at hl 7 rfl) ?_
              refine wq_call (va_runS (As := [.ref ox, .ref ad, .ref af, .ref ag]) (rest := []) ⟨hx, hb, hml, hown, hts⟩ (m_L_isMoney l hnt hq hR hJ hB (by omega)) (va_cwS 4 hts gL_law_L_isMoney rfl rfl rfl (by decide +kernel) ⟨Nat.le_of_ble_eq_true rfl, Nat.le_of_ble_eq_true rfl⟩) (wq_pre hK hE hZ hN hw hA) rfl rfl hl.1 rfl (lv_room (Nat.le_of_ble_eq_true rfl)) dL_law_129 ⟨(show cc + 8 + 4 + 32 ≤ 1200104 by omega), (show ss + 100 + 24 + 192 ≤ 5501314 by omega)⟩) hw hA (fun r_18 L_18 f_18 fa_18 H locs hp hw => ?_)
              obtain ⟨er, efa, ra, ar, hq⟩ := hp
              subst er
              replace hR := wR_tr hR efa
              refine lv_if_eq (tgt := 139) hx hb dL_law_132 (by decide) (fun c_19 => ?_) (fun c_19 => ?_)
              · exact absurd c_19 (by decide)
              · have bc_19 : (true) = true := bI_1 (fun z => c_19 (rfl.trans z))
                refine lv_iconst (v := 1) hx hb dL_law_135 (by decide) ?_
                refine lv_goto (tgt := 140) hx hb dL_law_136 (by decide) ?_
                refine lv_istore (lv' := [(7, .int 1), (8, .int xi), (1, .ref ox), (2, .ref ad), (3, .ref av), (4, .ref ao), (5, .ref af), (6, .ref ag), (0, .ref b)]) hx hb dL_law_140 hl (by decide) rfl (fun ls hl => ?_)
                obtain ⟨x_20, ex_20⟩ : ∃ y : Int32, y = xi + 1 := ⟨_, rfl⟩
                have nx_20 : x_20 = nI (t + 1) := by rw [ex_20, ei, nI_1]
                refine lv_iinc (v := x_20) (lv' := [(8, .int x_20), (7, .int 1), (1, .ref ox), (2, .ref ad), (3, .ref av), (4, .ref ao), (5, .ref af), (6, .ref ag), (0, .ref b)]) hx hb dL_law_142 hl (k := 1) rfl (by rw [ex_20]; rfl) (by decide) rfl (fun ls hl => ?_)
                refine lv_goto (tgt := 80) hx hb dL_law_145 (by decide) ?_
                exact ih (t + 1) (by omega) _ nx_20 _ _ _ _ _ _ _ hw ⟨ra, ar, n, km, mn, wk, po, rr, d, v, o, fr, g, hq, hR, hJ, hB⟩ (by omega) (by omega) ls (lv_sub hl [0, 1, 2, 3, 4, 5, 6, 7, 8] rfl)
      exact KK 64 0 (by omega) _ rfl _ _ _ _ _ _ _ hw ⟨ra, ar, n, km, mn, wk, po, rr, d, v, o, fr, g, hq, hR, hJ, hB⟩ (by omega) (by omega) ls (lv_sub hl [0, 1, 2, 3, 4, 5, 6, 7, 8] rfl)
