/-! THE LAW'S CASES: what stands through the whole walk, and the loop's state -/
def lwA (s : State) : Nat → Prop := fun q => s.heap.size ≤ q
def lwC (G : wy_G) (p : Program) (l : Launch) (s : State) (m : MethodId) (meth : Method) (c : Code) (b N : Nat) (xs : Nat → Int32) : Prop :=
  p.tables.exec = Jvm.exec ∧ c.code = cL_law ∧ c.maxLocals = 8 ∧ s.vm.findClass RL = some m.cls ∧ (∀ w ∈ wsL_law, w.before #[Value.ref b] s = true) ∧ va_X b N xs s s.heap ∧ b < s.heap.size ∧ wy_K G s ∧ wt_E (lwA s) s ∧ wl_E G (lwA s) s ∧ wc_N s ∧ l.stackTraces = false
/-- the worlds of both sides, told by the same rides -/
def lwW (G : wy_G) (s : State) (ox om oo od t : Nat) (H : Heap) (locs : List Loc) : Prop := ∃ (L : List Nat) (f : Nat → va_E) (Lm : List Nat) (fm : Nat → va_E) (fo : Nat → Int64) (fd : Nat → UInt64) (lo : Nat) (ra ar ma : Nat → Nat) (n : Nat) (km mn : Int32) (wk : Nat) (po : Nat → Int32) (rr : Nat → wr_V) (th : Int32) (g0 g1 g2 g3 g4 g5 g6 g7 g8 g9 : Nat → Int32),
  wL G (lwA s) s.heap H locs L f Lm fm oo fo od fd ∧ wx_S G L f ox lo ra ar n km mn wk po rr ∧ wm_S G Lm fm om ma n km mn wk th g0 g1 g2 g3 g4 g5 g6 g7 g8 g9 ∧ wm_r po rr g0 g1 g2 g3 g4 g5 g6 g7 g8 g9 ∧ wI t n km mn rr
section LC
variable {p : Program} {l : Launch} {e : Env} {R : Room} {s : State} {m : MethodId} {args : Array Value} {below : List Frame} {meth : Method} {c : Code} {H : Heap} {locs : List Loc} {cells slots : Nat} {Q : State → Prop}
variable {pc : Nat} {ls : Array Slot} {rest : List Value} {G : wy_G} {cc : ByteArray}
/-- an int of the script -/
theorem lw_sld {b N i k : Nat} {xs : Nat → Int32} {x : Int32} (hexec : p.tables.exec = Jvm.exec) (hb : c.code = cc) (hX : va_X b N xs s s.heap) (hbl : b < s.heap.size) (hS : va_S (lwA s) s.heap H locs) (hx : x = nI (i + k)) (hi : i + k < N) (hN : N ≤ 2560) (hdg : decode cc pc = .ok (.iaload, 1))
    (kk : W p l e R s m args below meth c H locs cells slots Q (F0 m (pc + 1) ls (.int (xs (i + k)) :: rest))) : W p l e R s m args below meth c H locs cells slots Q (F0 m pc ls (.int x :: .ref b :: rest)) := by
  subst hx
  refine va_sld hexec hb hX hbl (fun z => absurd hbl (Nat.not_lt.mpr z)) hS (vp_in_nI hi (by omega)) hdg ?_
  rw [nI_clamp (by omega)]
  exact kk
/-- the answer out of its array -/
theorem lw_lald {L Lm : List Nat} {f fm : Nat → va_E} {A : Nat → Prop} {oo od : Nat} {fo : Nat → Int64} {fd : Nat → UInt64} (hexec : p.tables.exec = Jvm.exec) (hb : c.code = cc) (hK : wy_K G s) (h : wL G A s.heap H locs L f Lm fm oo fo od fd) (hdg : decode cc pc = .ok (.laload, 1))
    (kk : W p l e R s m args below meth c H locs cells slots Q (F0 m (pc + 1) ls (.long (fo 0) :: rest))) : W p l e R s m args below meth c H locs cells slots Q (F0 m pc ls (.int 0 :: .ref oo :: rest)) := by
  obtain ⟨-, -, -, -, -, -, -, -, -, -, h8, -⟩ := h
  refine va_lald (ws := [(oo, wo_e G fo)]) hexec hb hK (fun k q hk => ?_) 0 3 rfl rfl (show vp_in 0 1 by unfold vp_in; decide) hdg kk
  rw [List.mem_singleton.mp (List.mem_of_getElem? hk)]
  exact h8
theorem lw_dald {L Lm : List Nat} {f fm : Nat → va_E} {A : Nat → Prop} {oo od : Nat} {fo : Nat → Int64} {fd : Nat → UInt64} (hexec : p.tables.exec = Jvm.exec) (hb : c.code = cc) (hK : wy_K G s) (h : wL G A s.heap H locs L f Lm fm oo fo od fd) (hdg : decode cc pc = .ok (.daload, 1))
    (kk : W p l e R s m args below meth c H locs cells slots Q (F0 m (pc + 1) ls (.double (fd 0) :: rest))) : W p l e R s m args below meth c H locs cells slots Q (F0 m pc ls (.int 0 :: .ref od :: rest)) := by
  obtain ⟨-, -, -, -, -, -, -, -, -, -, -, h9⟩ := h
  refine va_dald (ws := [(od, wd_e G fd)]) hexec hb hK (fun k q hk => ?_) 0 4 rfl rfl (show vp_in 0 1 by unfold vp_in; decide) hdg kk
  rw [List.mem_singleton.mp (List.mem_of_getElem? hk)]
  exact h9
end LC
