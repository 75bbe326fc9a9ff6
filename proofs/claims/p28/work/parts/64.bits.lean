/-! bits and part -/
theorem bt_bI (c : Bool) {j : Nat} (hj : j < 32) : bt (bI c) j = (decide (j = 0) && c) := by
  cases c with
  | true => rw [bI_t, bt_1 j hj, Bool.and_true]
  | false => rw [bI_f, b_0, Bool.and_false]
theorem bq_bit (x : Int32) {i : Nat} (hi : i < 31) : (x >>> (nI i &&& 31)) &&& 1 = bI (bt x i) := by
  apply b_ext
  intro j hj
  rw [b_and, b_sshr i (by omega) x hj, bt_1 j hj, bt_bI _ hj]
  by_cases h : j = 0
  · subst h
    simp [show i < 32 by omega]
  · simp [h]
theorem cb_bI (b : Nat → Bool) (i : Nat) : nI (cb b i) + bI (b i) = nI (cb b (i + 1)) := by
  cases h : b i with
  | true => rw [bI_t, nI_1]; simp [cb, h]
  | false => rw [bI_f, Int32.add_zero]; simp [cb, h]
theorem bq_pos (v : Int32) : ∃ y : Nat, y < 2 ^ 31 ∧ v &&& 2147483647 = nI y := by
  refine ⟨v.toBitVec.toNat &&& 2147483647, ?_, ?_⟩
  · exact Nat.lt_of_le_of_lt Nat.and_le_right (by decide)
  · apply Int32.toBitVec_inj.mp
    rw [Int32.toBitVec_and]
    apply BitVec.eq_of_toNat_eq
    rw [BitVec.toNat_and]
    have e : (nI (v.toBitVec.toNat &&& 2147483647)).toBitVec.toNat = v.toBitVec.toNat &&& 2147483647 := pk_tn (Nat.lt_of_le_of_lt Nat.and_le_right (by decide))
    rw [e]
    rfl
theorem bq_part (v : Int32) {q : Nat} (h0 : 0 < q) (hq : q < 2 ^ 31) : ∃ m, m < q ∧ (v &&& 2147483647) - (v &&& 2147483647) / nI q * nI q = nI m := by
  obtain ⟨y, hy, e⟩ := bq_pos v
  exact ⟨y % q, Nat.mod_lt _ h0, by rw [e, pk_rem hy h0 hq]⟩
def wp_P (b N : Nat) (xs : Nat → Int32) (U : State) : Prop := va_X b N xs U U.heap ∧ b < U.heap.size
theorem wp_pre {s : State} {H : Heap} {locs : List Loc} {A : Nat → Prop} {b N : Nat} {xs : Nat → Int32} {As : List Value} (hX : va_X b N xs s s.heap) (hbl : b < s.heap.size) (hbA : ¬ A b) (hS : va_S A s.heap H locs) : PreS s H (va_Pc As (wp_P b N xs)) As :=
  ⟨fun a U g mk q => by
    obtain ⟨q0, q1, q2⟩ := q
    exact ⟨q0, va_X.moved (u := U) (U := U.calling g mk a) (Vm.Alike.refl U.vm) q1, q2⟩, fun U hU hW => ⟨rfl, by rw [hU]; exact (hX.kept (hS.2.1 b hbl hbA)).moved hW.alike, by rw [hU]; exact Nat.lt_of_lt_of_le hbl hS.1⟩⟩
set_option maxHeartbeats 4000000 in
set_option maxRecDepth 100000 in
theorem m_L_bits (l : Launch) (b : Nat → Bool) (p0 : Int32) (hbb : ∀ i, i < 20 → bt p0 i = b i) : Met l yL_bits wsL_bits ({ frames := 0, cells := 0, slots := 0, locals := 0 } : Room) (va_Pc [.int p0] (fun _ => True)) (vp_Si (fun z => z = nI (cb b 20))) 0 0 (fun _ => False) := by
  refine Met.ofW (cc := cL_bits) (maxL := 3) (ret := (some .int)) (by decide) rfl ?_
  intro p e s m args below meth c s₁ B hml hv
  obtain ⟨rfl, -⟩ := hv
  have hx := B.exec
  have hb := B.bytes
  have hr := B.returns
  have hts := atoms_spec (ws := wsL_bits) B.pre
  have hown : s.vm.findClass RL = some m.cls := findClass_of_methodNamed B.named
  have hlocks := B.notSynchronized
  have hl := lv_entry ([.int p0]) (n := 3) (Nat.le_of_ble_eq_true rfl)
  rw [lg_entry_eq]
  generalize (lg_sl ([.int p0]) ++ List.replicate (3 - (lg_sl ([.int p0])).length) Slot.unset).toArray = ls at hl ⊢
  have hl : lv_has ls 3 [(0, .int p0)] := hl
  refine lv_iconst (v := 0) hx hb dL_bits_0 (by decide) ?_
  refine lv_istore_n (lv' := [(1, .int 0), (0, .int p0)]) hx hb dL_bits_1 rfl hl (by decide) rfl (fun ls hl => ?_)
  refine lv_iconst (v := 0) hx hb dL_bits_2 (by decide) ?_
  refine lv_istore_n (lv' := [(2, .int 0), (1, .int 0), (0, .int p0)]) hx hb dL_bits_3 rfl hl (by decide) rfl (fun ls hl => ?_)
  have KK : ∀ (d i : Nat), i + d = 20 → ∀ (xi_i : Int32), xi_i = nI (i) → ∀ (a_s : Int32), a_s = nI (cb b i) → ∀ ls : Array Slot, lv_has ls 3 [(2, .int xi_i), (1, .int a_s), (0, .int p0)] → W p l e (headSpec wsL_bits ({ frames := 0, cells := 0, slots := 0, locals := 0 } : Room)).room s m ([.int p0] : List Value).toArray below meth c s.heap [] 0 0 (MQ below (vp_Si (fun z => z = nI (cb b 20))) ([.int p0] : List Value).toArray s 0 0 (fun _ => False)) (F0 m 4 ls []) := by
    intro d
    induction d with
    | zero =>
      intro i hd_i xi_i ei_i a_s ha_s ls hl
      refine lv_iload_n hx hb dL_bits_4 rfl (lv_at hl 0 rfl) ?_
      refine lv_bipush (v := 20) hx hb dL_bits_5 (by decide) ?_
      refine lv_icmp_ge (tgt := 24) hx hb dL_bits_7 (by decide) (fun c_1 => ?_) (fun c_1 => ?_)
      · have nc_1 : 20 ≤ i := (wy_ge ei_i (rfl : (20 : Int32) = nI 20) (by omega) (by decide)).mp c_1
        obtain rfl : 20 = i := by omega
        refine lv_iload_n hx hb dL_bits_24 rfl (lv_at hl 1 rfl) ?_
        exact wy_iR ha_s hx hb hr hlocks dL_bits_25
      · have nc_1 : ¬ (20 ≤ i) := fun z => c_1 ((wy_ge ei_i (rfl : (20 : Int32) = nI 20) (by omega) (by decide)).mpr z)
        exact absurd nc_1 (by omega)
    | succ d ih_d =>
      intro i hd_i xi_i ei_i a_s ha_s ls hl
      refine lv_iload_n hx hb dL_bits_4 rfl (lv_at hl 0 rfl) ?_
      refine lv_bipush (v := 20) hx hb dL_bits_5 (by decide) ?_
      refine lv_icmp_ge (tgt := 24) hx hb dL_bits_7 (by decide) (fun c_2 => ?_) (fun c_2 => ?_)
      · have nc_2 : 20 ≤ i := (wy_ge ei_i (rfl : (20 : Int32) = nI 20) (by omega) (by decide)).mp c_2
        exact absurd nc_2 (by omega)
      · have nc_2 : ¬ (20 ≤ i) := fun z => c_2 ((wy_ge ei_i (rfl : (20 : Int32) = nI 20) (by omega) (by decide)).mpr z)
        refine lv_iload_n hx hb dL_bits_10 rfl (lv_at hl 1 rfl) ?_
        refine lv_iload_n hx hb dL_bits_11 rfl (lv_at hl 2 rfl) ?_
        refine lv_iload_n hx hb dL_bits_12 rfl (lv_at hl 0 rfl) ?_
        refine lv_ishr hx hb dL_bits_13 ?_
        refine lv_topi (fun x_3 ex_3 => ?_)
        refine lv_iconst (v := 1) hx hb dL_bits_14 (by decide) ?_
        refine lv_iand hx hb dL_bits_15 ?_
        refine lv_topi (fun x_4 ex_4 => ?_)
        refine lv_iadd hx hb dL_bits_16 ?_
        refine lv_topi (fun x_5 ex_5 => ?_)
        refine lv_istore_n (lv' := [(1, .int x_5), (2, .int xi_i), (0, .int p0)]) hx hb dL_bits_17 rfl hl (by decide) rfl (fun ls hl => ?_)
        obtain ⟨x_6, ex_6⟩ : ∃ y : Int32, y = xi_i + 1 := ⟨_, rfl⟩
        have nx_6 : x_6 = nI (i + 1) := by rw [ex_6, ei_i, nI_1]
        refine lv_iinc (v := x_6) (lv' := [(2, .int x_6), (1, .int x_5), (0, .int p0)]) hx hb dL_bits_18 hl (k := 1) rfl (by rw [ex_6]; rfl) (by decide) rfl (fun ls hl => ?_)
        refine lv_goto (tgt := 4) hx hb dL_bits_21 (by decide) ?_
        exact ih_d (i + 1) (by omega) _ nx_6 _ (by rw [ex_5, ha_s, ex_4, ex_3, ei_i, bq_bit p0 (by omega), hbb i (by omega)]; exact cb_bI b i) ls (lv_sub hl [0, 1, 2] rfl)
  exact KK (20) 0 (by omega) _ rfl _ rfl ls (lv_sub hl [0, 1, 2] rfl)
set_option maxHeartbeats 4000000 in
set_option maxRecDepth 100000 in
theorem m_L_part (l : Launch) {b N : Nat} {xs : Nat → Int32} (hN : N ≤ 260) (p1 p2 : Int32) (k q : Nat) (hk : k ≤ 1000) (h0 : 0 < q) (hq : q < 2 ^ 31) (e1 : p1 = nI k) (e2 : p2 = nI q) : Met l yL_part wsL_part ({ frames := 0, cells := 0, slots := 0, locals := 0 } : Room) (va_Pc [.ref b, .int p1, .int p2] (wp_P b N xs)) (vp_Si (fun z => ∃ y, y < q ∧ z = nI y)) 0 0 (fun _ => False) := by
  refine Met.ofW (cc := cL_part) (maxL := 4) (ret := (some .int)) (by decide) rfl ?_
  intro p e s m args below meth c s₁ B hml hv
  obtain ⟨rfl, hP⟩ := hv
  have hx := B.exec
  have hb := B.bytes
  have hr := B.returns
  have hts := atoms_spec (ws := wsL_part) B.pre
  have hown : s.vm.findClass RL = some m.cls := findClass_of_methodNamed B.named
  have hlocks := B.notSynchronized
  have hl := lv_entry ([.ref b, .int p1, .int p2]) (n := 4) (Nat.le_of_ble_eq_true rfl)
  rw [lg_entry_eq]
  generalize (lg_sl ([.ref b, .int p1, .int p2]) ++ List.replicate (4 - (lg_sl ([.ref b, .int p1, .int p2])).length) Slot.unset).toArray = ls at hl ⊢
  have hl : lv_has ls 4 [(0, .ref b), (1, .int p1), (2, .int p2)] := hl
  refine lv_iload_n hx hb dL_part_0 rfl (lv_at hl 1 rfl) ?_
  refine lv_aload_n hx hb dL_part_1 rfl (lv_at hl 0 rfl) ?_
  refine va_slen hx hb hP.1 hP.2 (fun z => z) (va_S.rf (A := fun _ => False)) dL_part_2 ?_
  refine lv_icmp_ge (tgt := 12) hx hb dL_part_3 (by decide) (fun c_1 => ?_) (fun c_1 => ?_)
  · have nc_1 : N ≤ k := (wy_ge e1 rfl (by omega) (by omega)).mp c_1
    refine lv_sipush (v := 271) hx hb dL_part_12 (by decide) ?_
    refine lv_iload_n hx hb dL_part_15 rfl (lv_at hl 1 rfl) ?_
    refine lv_imul hx hb dL_part_16 ?_
    refine lv_topi (fun x_2 ex_2 => ?_)
    have nx_2 : x_2 = nI (271 * k) := ex_2.trans ((congr (congrArg (fun u v : Int32 => u * v) (rfl : (271 : Int32) = nI 271)) e1).trans (pk_mul _ _))
    refine lv_sipush (v := 151) hx hb dL_part_17 (by decide) ?_
    refine lv_iload_n hx hb dL_part_20 rfl (lv_at hl 1 rfl) ?_
    refine lv_imul hx hb dL_part_21 ?_
    refine lv_topi (fun x_3 ex_3 => ?_)
    have nx_3 : x_3 = nI (151 * k) := ex_3.trans ((congr (congrArg (fun u v : Int32 => u * v) (rfl : (151 : Int32) = nI 151)) e1).trans (pk_mul _ _))
    refine lv_iload_n hx hb dL_part_22 rfl (lv_at hl 1 rfl) ?_
    refine lv_imul hx hb dL_part_23 ?_
    refine lv_topi (fun x_4 ex_4 => ?_)
    have nx_4 : x_4 = nI ((151 * k) * k) := ex_4.trans ((congr (congrArg (fun u v : Int32 => u * v) nx_3) e1).trans (pk_mul _ _))
    refine lv_iadd hx hb dL_part_24 ?_
    refine lv_topi (fun x_5 ex_5 => ?_)
    have nx_5 : x_5 = nI (271 * k + (151 * k) * k) := ex_5.trans ((congr (congrArg (fun u v : Int32 => u + v) nx_2) nx_4).trans (nI_add _ _))
    refine lv_istore_n (lv' := [(3, .int x_5), (0, .ref b), (1, .int p1), (2, .int p2)]) hx hb dL_part_25 rfl hl (by decide) rfl (fun ls hl => ?_)
    refine lv_iload_n hx hb dL_part_26 rfl (lv_at hl 0 rfl) ?_
    refine lv_ldc (v := 2147483647) hx hb hown (hts (.constant RL 7 (2147483647)) (by decide +kernel)) dL_part_27 ?_
    refine lv_iand hx hb dL_part_29 ?_
    refine lv_topi (fun x_6 ex_6 => ?_)
    refine lv_iload_n hx hb dL_part_30 rfl (lv_at hl 3 rfl) ?_
    refine lv_irem hx hb dL_part_31 (fun z => absurd ((nI_eq (by omega) (by omega)).mp ((e2.symm.trans z : nI q = nI 0))) (by omega)) ?_
    refine lv_topi (fun x_7 ex_7 => ?_)
    obtain ⟨y, hy, ey⟩ := bq_part (x_5) (q := q) (by omega) (by omega)
    refine W.iret hx hb hr (fun t ht hW => ⟨_, rfl, ⟨y, hy, ?_⟩, ht⟩) (fun q hq => absurd hq List.not_mem_nil) dL_part_32 hlocks
    rw [ex_7, e2, ex_6]; exact ey
  · have nc_1 : ¬ (N ≤ k) := fun z => c_1 ((wy_ge e1 rfl (by omega) (by omega)).mpr z)
    refine lv_aload_n hx hb dL_part_6 rfl (lv_at hl 0 rfl) ?_
    refine lv_iload_n hx hb dL_part_7 rfl (lv_at hl 1 rfl) ?_
    refine va_sld hx hb hP.1 hP.2 (fun z => z) (va_S.rf (A := fun _ => False)) (by rw [e1]; exact vp_in_nI (by omega) (by omega)) dL_part_8 ?_
    refine lv_topi (fun x_8 ex_8 => ?_)
    refine lv_goto (tgt := 25) hx hb dL_part_9 (by decide) ?_
    refine lv_istore_n (lv' := [(3, .int x_8), (0, .ref b), (1, .int p1), (2, .int p2)]) hx hb dL_part_25 rfl hl (by decide) rfl (fun ls hl => ?_)
    refine lv_iload_n hx hb dL_part_26 rfl (lv_at hl 0 rfl) ?_
    refine lv_ldc (v := 2147483647) hx hb hown (hts (.constant RL 7 (2147483647)) (by decide +kernel)) dL_part_27 ?_
    refine lv_iand hx hb dL_part_29 ?_
    refine lv_topi (fun x_9 ex_9 => ?_)
    refine lv_iload_n hx hb dL_part_30 rfl (lv_at hl 3 rfl) ?_
    refine lv_irem hx hb dL_part_31 (fun z => absurd ((nI_eq (by omega) (by omega)).mp ((e2.symm.trans z : nI q = nI 0))) (by omega)) ?_
    refine lv_topi (fun x_10 ex_10 => ?_)
    obtain ⟨y, hy, ey⟩ := bq_part (x_8) (q := q) (by omega) (by omega)
    refine W.iret hx hb hr (fun t ht hW => ⟨_, rfl, ⟨y, hy, ?_⟩, ht⟩) (fun q hq => absurd hq List.not_mem_nil) dL_part_32 hlocks
    rw [ex_10, e2, ex_9]; exact ey
