theorem wy_c.nek {L : List Nat} {f : Nat → va_E} {a b : Nat} {x y : va_E} (h1 : wy_c L f a x) (h2 : wy_c L f b y) (hxy : x ≠ y) : a ≠ b := fun z => hxy (by rw [← h1.2, z, h2.2])
def ncap (n : Nat) : Nat := n + (if 1 < n / 2 then n / 2 else 1)
theorem ncap_gt (n : Nat) : n < ncap n := by unfold ncap; split <;> omega
theorem ncap_le {n : Nat} (h : n ≤ 40) : ncap n ≤ 60 := by unfold ncap; split <;> omega
theorem ncap_max (n : Nat) (h : n ≤ 40) : (if nI 1 < nI (n / 2) then nI (n / 2) else nI 1) = nI (if 1 < n / 2 then n / 2 else 1) := by
  by_cases c : 1 < n / 2
  · rw [if_pos (nI_lt c (by omega)), if_pos c]
  · rw [if_neg (nI_nlt (by omega) (by decide)), if_neg c]
theorem wl_shr {n : Nat} (h : n ≤ 100) {x y : Int32} (hx : x = nI n) (hy : y = 1) : x >>> (y &&& 31) = nI (n / 2) := by
  subst hx hy
  have k := pk_shrN (n := n) (by omega) ((1 : Int32) &&& 31) 1 (by decide)
  rw [Nat.pow_one] at k
  exact k
def wl_ar (n : Nat) (g : Nat → Option Nat) (G : wy_G) : va_E := .inl (G.2 2, n, .inr (.inr (.inr (.inr g))))
/-- an array made longer -/
def wl_c (G : wy_G) (L : List Nat) (f : Nat → va_E) (n0 : Nat) (g0 : Nat → Option Nat) (c : Nat) : Option Value → List Nat → (Nat → va_E) → Prop := fun r L' f' => ∃ q, r = some (.ref q) ∧ L' = L ++ [q] ∧ q ∉ L ∧ wy_c L' f' q (.inl (G.2 2, c, .inr (.inr (.inr (.inr (va_cpy g0 (fun _ => none) 0 0 n0)))))) ∧ ∀ z, z ≠ q → f' z = f z
def wl_M (G : wy_G) (L : List Nat) (f : Nat → va_E) (sz mi : Nat) (U : State) : Prop := wl_P G L f sz U ∧ va_Mi "[Ljava/lang/Object;" mi U
theorem wl_pSM {p : Program} {s : State} {H : Heap} {locs : List Loc} {A : Nat → Prop} {G : wy_G} {L : List Nat} {f : Nat → va_E} {As : List Value} {mi : Nat} (hK : wy_K G s) (hE : wl_E G A s) (hM : va_Mi "[Ljava/lang/Object;" mi s) (hw : wy_H G L f A s.heap H locs) (hA : ∀ q, s.heap.size ≤ q → A q) : PreS s H (va_Pc As (wl_M G L f H.size mi)) As :=
  ⟨fun a U g mk q => by
    obtain ⟨q0, ⟨⟨q1, qP, qK, qD⟩, qE⟩, qM⟩ := q
    exact ⟨q0, ⟨⟨q1, qP, wy_K.moved (u := U) (U := U.calling g mk a) (Vm.Alike.refl U.vm) qK, qD⟩, qE.calling⟩, va_Mi.moved (u := U) (U := U.calling g mk a) (Vm.Alike.refl U.vm) qM⟩, fun U hU hW => ⟨rfl, ⟨wy_toW hK hw hU hW, hE.at hw.2.2 hU hW (hw.sub hA)⟩, hM.moved hW.alike⟩⟩
theorem wl_cpy {n0 : Nat} {g0 : Nat → Option Nat} {k : Nat} (h : k < n0) : va_cpy g0 (fun _ => none) 0 0 n0 k = g0 k := by
  unfold va_cpy; rw [if_pos ⟨by omega, by omega⟩]; congr 1; omega
/-- the list with its array full: one that has room -/
def wl_g (G : wy_G) (L : List Nat) (f : Nat → va_E) (lo n : Nat) (md : Int32) (ra : Nat → Nat) : Option Value → List Nat → (Nat → va_E) → Prop := fun r L' f' => ∃ q cap g, r = some (.ref q) ∧ L' = L ++ [q] ∧ q ∉ L ∧ wy_c L' f' lo (.inr (0, [.int md, .ref q, .int (nI n)])) ∧ wy_c L' f' q (.inl (G.2 2, cap, .inr (.inr (.inr (.inr g))))) ∧ n < cap ∧ cap ≤ 100 ∧ (∀ k, k < n → g k = some (ra k)) ∧ ∀ z, z ∈ L → z ≠ lo → f' z = f z
/-- what the list is before it grows -/
def wl_f (G : wy_G) (L : List Nat) (f : Nat → va_E) (he n : Nat) (ra : Nat → Nat) : Prop := (n = 0 ∧ he = G.2 5) ∨ ∃ g, wy_c L f he (.inl (G.2 2, n, .inr (.inr (.inr (.inr g))))) ∧ ∀ k, k < n → g k = some (ra k)
theorem wx_l.push {G : wy_G} {L : List Nat} {f : Nat → va_E} {lo he n cap v : Nat} {md : Int32} {ra : Nat → Nat} {g : Nat → Option Nat} (h1 : wy_c L f lo (.inr (0, [.int md, .ref he, .int (nI (n + 1))]))) (h2 : wy_c L f he (.inl (G.2 2, cap, .inr (.inr (.inr (.inr (va_up g n (some v)))))))) (hn : n < cap) (hc : cap ≤ 100) (hg : ∀ k, k < n → g k = some (ra k)) : wx_l G L f lo (n + 1) (va_up ra n v) := by
  refine ⟨md, he, cap, va_up g n (some v), h1, Or.inr h2, hn, hc, fun k hk => ?_⟩
  by_cases e : k = n
  · subst e; rw [va_up_self, va_up_self]
  · rw [va_up_ne _ _ e, va_up_ne _ _ e]; exact hg k (by omega)
/-- the list with one more -/
def wl_a (G : wy_G) (L : List Nat) (f : Nat → va_E) (lo n v : Nat) (ra : Nat → Nat) (rv : Option Value) : Option Value → List Nat → (Nat → va_E) → Prop := fun r L' f' => r = rv ∧ (∀ z, z ∈ L → z ∈ L') ∧ wx_l G L' f' lo (n + 1) (va_up ra n v) ∧ ∀ z, z ∈ L → z ≠ lo → (∀ cap g, f z ≠ .inl (G.2 2, cap, .inr (.inr (.inr (.inr g))))) → f' z = f z
set_option maxHeartbeats 4000000 in
set_option maxRecDepth 100000 in
theorem m_J8_newLength_cabcc (l : Launch) (p0 p1 p2 : Int32) (n : Nat) (hn : n ≤ 40) (e0 : p0 = nI n) (e1 : p1 = nI 1) (e2 : p2 = nI (n / 2)) : Met l yJ8_newLength_cabcc wsJ8_newLength_cabcc ({ frames := 1, cells := 0, slots := 0, locals := 14 } : Room) (va_Pc [.int p0, .int p1, .int p2] (fun _ => True)) (vp_Si (fun z => z = nI (ncap n))) 0 0 (fun _ => False) := by
  refine Met.ofW (cc := cJ8_newLength_cabcc) (maxL := 4) (ret := (some .int)) (by decide) rfl ?_
  intro p e s m args below meth c s₁ B hml hv
  obtain ⟨rfl, -⟩ := hv
  have hx := B.exec
  have hb := B.bytes
  have hr := B.returns
  have hts := atoms_spec (ws := wsJ8_newLength_cabcc) B.pre
  have hown : s.vm.findClass RJ8 = some m.cls := findClass_of_methodNamed B.named
  have hlocks := B.notSynchronized
  have hl := lv_entry ([.int p0, .int p1, .int p2]) (n := 4) (Nat.le_of_ble_eq_true rfl)
  rw [lg_entry_eq]
  generalize (lg_sl ([.int p0, .int p1, .int p2]) ++ List.replicate (4 - (lg_sl ([.int p0, .int p1, .int p2])).length) Slot.unset).toArray = ls at hl ⊢
  have hl : lv_has ls 4 [(0, .int p0), (1, .int p1), (2, .int p2)] := hl
  refine lv_iload_n hx hb dJ8_newLength_cabcc_0 rfl (lv_at hl 0 rfl) ?_
  refine lv_iload_n hx hb dJ8_newLength_cabcc_1 rfl (lv_at hl 1 rfl) ?_
  refine lv_iload_n hx hb dJ8_newLength_cabcc_2 rfl (lv_at hl 2 rfl) ?_
  refine va_mmax hx hb (by rw [hml]; exact hl.1.symm) hown (hts (.methodLink RJ8 194 Lib.Math.max.name) (by decide +kernel)) (hts (.static Lib.Math.max.name) (by decide +kernel)) (hts (.initialized "java/lang/Math") (by decide +kernel)) (hts (.code Lib.Math.max.name Lib.Math.max.code 2 (some .int)) (by decide +kernel)) (Nat.le_of_ble_eq_true rfl) (Nat.le_of_ble_eq_true rfl) (Nat.le_of_ble_eq_true rfl) (Nat.le_of_ble_eq_true rfl) dJ8_newLength_cabcc_3 ?_
  refine lv_topi (fun x_1 ex_1 => ?_)
  have hz_2 : x_1 = nI (if 1 < n / 2 then n / 2 else 1) := by rw [ex_1, e1, e2]; exact ncap_max n hn
  refine lv_iadd hx hb dJ8_newLength_cabcc_6 ?_
  refine lv_topi (fun x_3 ex_3 => ?_)
  have nx_3 : x_3 = nI (n + if 1 < n / 2 then n / 2 else 1) := ex_3.trans ((congr (congrArg (fun u v : Int32 => u + v) e0) hz_2).trans (nI_add _ _))
  obtain rfl : x_3 = nI (ncap n) := nx_3
  refine lv_istore_n (lv' := [(3, .int (nI (ncap n))), (0, .int p0), (1, .int p1), (2, .int p2)]) hx hb dJ8_newLength_cabcc_7 rfl hl (by decide) rfl (fun ls hl => ?_)
  refine lv_iconst (v := 0) hx hb dJ8_newLength_cabcc_8 (by decide) ?_
  refine lv_iload_n hx hb dJ8_newLength_cabcc_9 rfl (lv_at hl 0 rfl) ?_
  refine lv_icmp_ge (tgt := 21) hx hb dJ8_newLength_cabcc_10 (by decide) (fun c_4 => ?_) (fun c_4 => ?_)
  · exact absurd c_4 (nI_nle (Nat.lt_of_le_of_lt (Nat.zero_le _) (ncap_gt n)) (Nat.lt_of_le_of_lt (ncap_le hn) (by decide)))
  · refine lv_iload_n hx hb dJ8_newLength_cabcc_13 rfl (lv_at hl 0 rfl) ?_
    refine lv_ldc (v := 2147483639) hx hb hown (hts (.constant RJ8 200 (2147483639)) (by decide +kernel)) dJ8_newLength_cabcc_14 ?_
    refine lv_icmp_gt (tgt := 21) hx hb dJ8_newLength_cabcc_16 (by decide) (fun c_5 => ?_) (fun c_5 => ?_)
    · exact absurd c_5 (nI_nlt (Nat.le_trans (ncap_le hn) (by decide)) (by decide) : ¬ nI 2147483639 < nI (ncap n))
    · refine lv_iload_n hx hb dJ8_newLength_cabcc_19 rfl (lv_at hl 0 rfl) ?_
      exact wy_iR rfl hx hb hr hlocks dJ8_newLength_cabcc_20
set_option maxHeartbeats 4000000 in
set_option maxRecDepth 100000 in
theorem m_J7_copyOf_6403c (l : Launch) {G : wy_G} {L : List Nat} {f : Nat → va_E} {sz : Nat} {mi : Nat} {a0 n0 : Nat} {g0 : Nat → Option Nat} (ha : wy_c L f a0 (.inl (G.2 2, n0, .inr (.inr (.inr (.inr g0)))))) (hel : ∀ i, i < n0 → ∀ y, g0 i = some y → ∃ fs, wy_c L f y (.inr (1, fs))) (p1 : Int32) (c0 : Nat) (e1 : p1 = nI c0) (hc0 : c0 ≤ 60) (hnc : n0 < c0) : Met l yJ7_copyOf_6403c wsJ7_copyOf_6403c ({ frames := 1, cells := 1, slots := 60, locals := 40 } : Room) (va_Pc [.ref a0, .int p1, .ref mi] (wl_M G L f sz mi)) (wy_Q G (wl_c G L f n0 g0 c0) (wy_A L sz)) 1 60 (wy_A L sz) := by
  refine Met.ofW (cc := cJ7_copyOf_6403c) (maxL := 4) (ret := (some (.array (.object "java/lang/Object")))) (by decide) rfl ?_
  intro p e s m args below meth c s₁ B hml hv
  obtain ⟨rfl, ⟨hv, hE⟩, hM⟩ := hv
  obtain ⟨hw, hK, hA⟩ := wy_start hv
  have hsz := hv.1
  subst hsz
  have hx := B.exec
  have hb := B.bytes
  have hr := B.returns
  have hts := atoms_spec (ws := wsJ7_copyOf_6403c) B.pre
  have hown : s.vm.findClass RJ7 = some m.cls := findClass_of_methodNamed B.named
  have hlocks := B.notSynchronized
  have hl := lv_entry ([.ref a0, .int p1, .ref mi]) (n := 4) (Nat.le_of_ble_eq_true rfl)
  rw [lg_entry_eq]
  generalize (lg_sl ([.ref a0, .int p1, .ref mi]) ++ List.replicate (4 - (lg_sl ([.ref a0, .int p1, .ref mi])).length) Slot.unset).toArray = ls at hl ⊢
  have hl : lv_has ls 4 [(0, .ref a0), (1, .int p1), (2, .ref mi)] := hl
  refine lv_aload_n hx hb dJ7_copyOf_6403c_0 rfl (lv_at hl 2 rfl) ?_
  refine va_ldcM hx hb hown (hts (.classLink RJ7 110 "[Ljava/lang/Object;") (by decide +kernel)) hM dJ7_copyOf_6403c_1 ?_
  refine lv_acmp_ne (rx := some mi) (ry := some mi) (tgt := 13) hx hb dJ7_copyOf_6403c_3 (by decide) (fun c_1 => ?_) (fun c_1 => ?_)
  · exact absurd rfl c_1
  · refine lv_iload_n hx hb dJ7_copyOf_6403c_6 rfl (lv_at hl 1 rfl) ?_
    refine wy_newq hx hb hown (hts (.classLink RJ7 2 "java/lang/Object") (by decide +kernel)) hE.2.2.2.2.1 hK hw hA (c0) e1 (by omega) (Nat.le_of_ble_eq_true rfl) (Nat.le_trans (Nat.add_le_add_left hc0 _) (Nat.le_of_ble_eq_true rfl)) dJ7_copyOf_6403c_7 (fun q0 H fq0 hfr0 hcq0 hnq0 hw => ?_)
    have hc_2 := wy_c.app2 ha hfr0 hnq0
    have ne_a0_0 := wy_c.neq ha hfr0
    refine lv_goto (tgt := 24) hx hb dJ7_copyOf_6403c_10 (by decide) ?_
    refine lv_astore_n (lv' := [(3, .ref q0), (0, .ref a0), (1, .int p1), (2, .ref mi)]) hx hb dJ7_copyOf_6403c_24 rfl hl (by decide) rfl (fun ls hl => ?_)
    refine lv_aload_n hx hb dJ7_copyOf_6403c_25 rfl (lv_at hl 1 rfl) ?_
    refine lv_iconst (v := 0) hx hb dJ7_copyOf_6403c_26 (by decide) ?_
    refine lv_aload_n hx hb dJ7_copyOf_6403c_27 rfl (lv_at hl 0 rfl) ?_
    refine lv_iconst (v := 0) hx hb dJ7_copyOf_6403c_28 (by decide) ?_
    refine lv_aload_n hx hb dJ7_copyOf_6403c_29 rfl (lv_at hl 1 rfl) ?_
    refine wy_alen hx hb hK hw.1 (t0 := 2) hc_2 rfl dJ7_copyOf_6403c_30 ?_
    refine lv_iload_n hx hb dJ7_copyOf_6403c_31 rfl (lv_at hl 2 rfl) ?_
    refine va_mmin hx hb (by rw [hml]; exact hl.1.symm) hown (hts (.methodLink RJ7 304 Lib.Math.min.name) (by decide +kernel)) (hts (.static Lib.Math.min.name) (by decide +kernel)) (hts (.initialized "java/lang/Math") (by decide +kernel)) (hts (.code Lib.Math.min.name Lib.Math.min.code 2 (some .int)) (by decide +kernel)) (Nat.le_of_ble_eq_true rfl) (Nat.le_of_ble_eq_true rfl) (Nat.le_of_ble_eq_true rfl) (Nat.le_trans (Nat.add_le_add_left hc0 _) (Nat.le_of_ble_eq_true rfl)) dJ7_copyOf_6403c_32 ?_
    refine lv_topi (fun x_3 ex_3 => ?_)
    have hz_4 : x_3 = nI (n0) := by rw [ex_3, e1]; exact if_neg (nI_nlt (Nat.le_of_lt hnc) (by omega))
    refine wy_copy hx hb (by rw [hml]; exact hl.1.symm) hown (hts (.methodLink RJ7 150 arraycopyName) (by decide +kernel)) (hts (.native arraycopyName) (by decide +kernel)) (hts (.static arraycopyName) (by decide +kernel)) (hts (.initialized "java/lang/System") (by decide +kernel)) hK hw hc_2 hcq0 hE.2.2.1 (n0) hz_4 (by omega) (by omega) (by omega) (fun i hi y hy => by obtain ⟨fs, hfs⟩ := hel i hi y hy; exact ⟨fs, wy_c.app2 hfs hfr0 hnq0⟩) (Nat.le_of_ble_eq_true rfl) (Nat.le_of_ble_eq_true rfl) dJ7_copyOf_6403c_35 (fun H locs fz hz hnz hw => ?_)
    refine lv_aload_n hx hb dJ7_copyOf_6403c_38 rfl (lv_at hl 0 rfl) ?_
    exact wy_aW hx hb hr (Or.inr ⟨_, rfl⟩) hlocks dJ7_copyOf_6403c_39 hw (Nat.le_of_ble_eq_true rfl) (Nat.le_trans (Nat.add_le_add_left hc0 _) (Nat.le_of_ble_eq_true rfl)) ⟨q0, rfl, rfl, hfr0, hz, fun z hz2 => (hnz z hz2).trans (hnq0 z hz2)⟩
set_option maxHeartbeats 4000000 in
set_option maxRecDepth 100000 in
theorem m_J7_copyOf_1904c (l : Launch) {G : wy_G} {L : List Nat} {f : Nat → va_E} {sz : Nat} {a0 n0 : Nat} {g0 : Nat → Option Nat} (ha : wy_c L f a0 (.inl (G.2 2, n0, .inr (.inr (.inr (.inr g0)))))) (hel : ∀ i, i < n0 → ∀ y, g0 i = some y → ∃ fs, wy_c L f y (.inr (1, fs))) (p1 : Int32) (c0 : Nat) (e1 : p1 = nI c0) (hc0 : c0 ≤ 60) (hnc : n0 < c0) : Met l yJ7_copyOf_1904c wsJ7_copyOf_1904c ({ frames := 2, cells := 1, slots := 60, locals := 63 } : Room) (va_Pc [.ref a0, .int p1] (wl_P G L f sz)) (wy_Q G (wl_c G L f n0 g0 c0) (wy_A L sz)) 1 60 (wy_A L sz) := by
  refine Met.ofW (cc := cJ7_copyOf_1904c) (maxL := 2) (ret := (some (.array (.object "java/lang/Object")))) (by decide) rfl ?_
  intro p e s m args below meth c s₁ B hml hv
  obtain ⟨rfl, hv, hE⟩ := hv
  obtain ⟨hw, hK, hA⟩ := wy_start hv
  have hsz := hv.1
  subst hsz
  have hx := B.exec
  have hb := B.bytes
  have hr := B.returns
  have hts := atoms_spec (ws := wsJ7_copyOf_1904c) B.pre
  have hown : s.vm.findClass RJ7 = some m.cls := findClass_of_methodNamed B.named
  have hlocks := B.notSynchronized
  obtain ⟨mi, hM⟩ := hE.2.2.2.2.2
  have hl := lv_entry ([.ref a0, .int p1]) (n := 2) (Nat.le_of_ble_eq_true rfl)
  rw [lg_entry_eq]
  generalize (lg_sl ([.ref a0, .int p1]) ++ List.replicate (2 - (lg_sl ([.ref a0, .int p1])).length) Slot.unset).toArray = ls at hl ⊢
  have hl : lv_has ls 2 [(0, .ref a0), (1, .int p1)] := hl
  refine lv_aload_n hx hb dJ7_copyOf_1904c_0 rfl (lv_at hl 0 rfl) ?_
  refine lv_iload_n hx hb dJ7_copyOf_1904c_1 rfl (lv_at hl 1 rfl) ?_
  refine lv_aload_n hx hb dJ7_copyOf_1904c_2 rfl (lv_at hl 0 rfl) ?_
  refine va_getC hx hb (by rw [hml]; exact hl.1.symm) hown (hts (.methodLink RJ7 86 ⟨"java/lang/Object", "getClass", "()Ljava/lang/Class;"⟩) (by decide +kernel)) hE.2.2.2.1.use (hts (.selects "[Ljava/lang/Object;" ⟨"java/lang/Object", "getClass", "()Ljava/lang/Class;"⟩ ⟨"java/lang/Object", "getClass", "()Ljava/lang/Class;"⟩) (by decide +kernel)) (hts (.instanceMethod ⟨"java/lang/Object", "getClass", "()Ljava/lang/Class;"⟩) (by decide +kernel)) (hts (.native ⟨"java/lang/Object", "getClass", "()Ljava/lang/Class;"⟩) (by decide +kernel)) hM (wy_acls hK hw.1 ha) (Nat.le_of_ble_eq_true rfl) (Nat.le_of_ble_eq_true rfl) dJ7_copyOf_1904c_3 ?_
  refine wy_call (va_runS (As := [.ref a0, .int p1, .ref mi]) (rest := []) ⟨hx, hb, hml, hown, hts⟩ (m_J7_copyOf_6403c l ha hel p1 c0 e1 hc0 hnc) (va_cwS 3 hts gJ7_copyOf_1904c_J7_copyOf_6403c rfl rfl rfl (by decide +kernel) ⟨Nat.le_of_ble_eq_true rfl, Nat.le_of_ble_eq_true rfl⟩) (wl_pSM (p := p) hK hE hM hw hA) rfl rfl hl.1 rfl (lv_room (Nat.le_of_ble_eq_true rfl)) dJ7_copyOf_1904c_6 ⟨Nat.le_of_ble_eq_true rfl, Nat.le_of_ble_eq_true rfl⟩) hw hA (fun rw_1 Lw_1 fw_1 H locs hpost hw => ?_)
  obtain ⟨q0, er, eL, hfr0, hz, hnz⟩ := hpost
  subst er eL
  exact wy_aW hx hb hr (Or.inr ⟨_, rfl⟩) hlocks dJ7_copyOf_1904c_9 hw (Nat.le_of_ble_eq_true rfl) (Nat.le_of_ble_eq_true rfl) ⟨q0, rfl, rfl, hfr0, hz, hnz⟩
