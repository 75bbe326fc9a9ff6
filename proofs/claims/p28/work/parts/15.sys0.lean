/-! THE CLASS'S WORLD: the purse, its list, its rides -/
def wx_l (G : wy_G) (L : List Nat) (f : Nat → va_E) (hl : Nat) (n : Nat) (ra : Nat → Nat) : Prop := ∃ (md : Int32) (he cap : Nat) (g : Nat → Option Nat), wy_c L f hl (.inr (0, [.int md, .ref he, .int (nI n)])) ∧ ((n = 0 ∧ cap = 0 ∧ he = G.2 5) ∨ wy_c L f he (.inl (G.2 2, cap, .inr (.inr (.inr (.inr g)))))) ∧ n ≤ cap ∧ cap ≤ 100 ∧ ∀ k, k < n → g k = some (ra k)
/-- arrays: ar 0 what was paid, ar (2k+1) the charges of ride k, ar (2k+2) its refunds -/
def wx_S (G : wy_G) (L : List Nat) (f : Nat → va_E) (hx hl : Nat) (ra ar : Nat → Nat) (n : Nat) (km mn : Int32) (wk : Nat) (po : Nat → Int32) (R : Nat → wr_V) : Prop :=
  wy_c L f hx (.inr (2, [.ref hl, .ref (ar 0), .int km, .int mn, .int (nI wk)])) ∧ wx_l G L f hl n ra ∧ wy_c L f (ar 0) (.inl (G.2 0, 5, .inl po)) ∧ (∀ k, k < n → wr_o G L f (ra k) (ar (2 * k + 1)) (ar (2 * k + 2)) (R k)) ∧ n ≤ 40 ∧ wk ≤ 20 ∧
  (∀ i j, i < n → j < n → ra i = ra j → i = j) ∧ (∀ i j, i < 2 * n + 1 → j < 2 * n + 1 → ar i = ar j → i = j)
/-! what is worked out of the rides -/
def anyB (g : Nat → Bool) : Nat → Bool
  | 0 => false
  | n + 1 => anyB g n || g n
theorem anyB_true (g : Nat → Bool) {i : Nat} (h : g i = true) : ∀ n, i < n → anyB g n = true
  | 0, hn => absurd hn (by omega)
  | n + 1, hn => by
    by_cases e : i = n
    · subst e; simp [anyB, h]
    · simp [anyB, anyB_true g h n (by omega)]
def fby (R : Nat → wr_V) (d w : Int32) (k : Nat) : Bool := fbyR (R k) d w
def fok (R : Nat → wr_V) (d w : Int32) (k : Nat) : Bool := fbyR (R k) d w && !voidR (R k)
def earnS (R : Nat → wr_V) (n : Nat) (d w : Int32) : Int32 := bx_sum (fun k => if fby R d w k then bx_sum (fdr (R k)) 10 else 0) n
def minS (R : Nat → wr_V) (n : Nat) (d w : Int32) : Int32 := bx_sum (fun k => if fok R d w k then rmi (R k) else 0) n
def floorS (R : Nat → wr_V) (n : Nat) (d w : Int32) : Int32 := 1500 * minS R n d w / 60
def topS (R : Nat → wr_V) (n : Nat) (d w : Int32) : Int32 := if floorS R n d w - earnS R n d w < 0 then 0 else floorS R n d w - earnS R n d w
def bonN (c : Nat) : Int32 := if 9 ≤ c then 6000 else if 6 ≤ c then 3000 else if 3 ≤ c then 1000 else 0
def bonS (R : Nat → wr_V) (n : Nat) (d w : Int32) : Int32 := bonN (cb (fok R d w) n)
def payS (R : Nat → wr_V) (n : Nat) (d w : Int32) : Int32 := earnS R n d w + topS R n d w + bonS R n d w
def payB (R : Nat → wr_V) (n : Nat) (d : Int32) (e : Nat) : Int32 := bx_sum (fun w => payS R n d (nI w)) e
def dueS (R : Nat → wr_V) (n : Nat) (po : Nat → Int32) (wk : Nat) (d : Nat) : Int32 := payB R n (nI d) wk - po d
def drvS (R : Nat → wr_V) (n : Nat) (d : Int32) : Bool := anyB (fun k => decide (rdv (R k) = d) && !rfi (R k)) n
def undS (R : Nat → wr_V) (n : Nat) : Bool := anyB (fun k => !rfi (R k)) n
def opdS (R : Nat → wr_V) (n : Nat) : Int32 := bx_sum (fun k => nI (cb (fun r => rdp (R k) r && !rse (R k) r) 10)) n
def spdS (R : Nat → wr_V) (n : Nat) (r : Nat) : Int32 := bx_sum (fun k => if rfi (R k) then rch (R k) r - rrf (R k) r else 0) n
def hrdS (R : Nat → wr_V) (n : Nat) : Int32 := bx_sum (fun k => if rfi (R k) then bx_sum (rch (R k)) 10 - bx_sum (rrf (R k)) 10 else 0) n
def houS (R : Nat → wr_V) (n wk : Nat) : Int32 := hrdS R n - bx_sum (fun d => payB R n (nI d) (wk + 1)) 5
def avsS (R : Nat → wr_V) (n : Nat) (r : Nat) : Int32 := bx_sum (fun k => if rfi (R k) && decide (0 < rch (R k) r) then rch (R k) r else 0) n
def avcS (R : Nat → wr_V) (n : Nat) (r : Nat) : Nat := cb (fun k => rfi (R k) && decide (0 < rch (R k) r)) n
section WX
variable {p : Program} {l : Launch} {e : Env} {R : Room} {s : State} {m : MethodId} {args : Array Value} {below : List Frame} {meth : Method} {c : Code} {H : Heap} {locs : List Loc} {cells slots : Nat} {Q : State → Prop}
variable {cc : ByteArray} {pc : Nat} {ls : Array Slot} {rest st0 : List Value} {A : Nat → Prop} {a : Nat} {H0 : Heap} {G : wy_G} {L : List Nat} {f : Nat → va_E}
theorem wy_cast {own C : String} {T : u_T} {N ci index : Nat} {fs : List Value} (hexec : p.tables.exec = Jvm.exec) (hb : c.code = cc) (hown : s.vm.findClass own = some m.cls) (hlink : (Cond.classLink own index C).before args s = true) (hK : wy_K G s) (hP : va_P G.1 vwCl (va_pl L f) H) (he : wy_c L f a (.inr (ci, fs))) (hc : vwCl[ci]? = some (C, T, N)) (hdg : decode cc pc = .ok (.checkcast index, 3))
    (k : W p l e R s m args below meth c H locs cells slots Q (F0 m (pc + 3) ls (.ref a :: rest))) : W p l e R s m args below meth c H locs cells slots Q (F0 m pc ls (.ref a :: rest)) := by
  obtain ⟨cell, h1, h2, h3⟩ := wy_recv hK hP he hc
  have hat : ClassAt s C (G.1.1 ci) := (hK.1 ci _ hc).2
  have h9 := Option.some.inj (h3.symm.trans hat.1)
  intro T hT X
  obtain ⟨vm', X', st⟩ := X.checkcastYes hexec hown hlink (by rw [hT]; exact h1) h2 h3 (by rw [h9]; exact va_assign hat) (g := F0 m pc ls (.ref a :: rest)) rfl rfl (by rw [hb]; exact hdg)
  obtain ⟨t, a1, b1⟩ := k (T.setVm vm') hT X'
  exact ⟨t, st t a1, b1⟩
theorem wy_aR {v a : Nat} {rt : FieldType} (h : a = v) (hexec : p.tables.exec = Jvm.exec) (hb : c.code = cc) (hr : meth.sig.returnType = some rt) (hrt : (∃ n, rt = .object n) ∨ ∃ t, rt = .array t) (hlocks : meth.locks = false) (hdg : decode cc pc = .ok (.areturn, 1)) : W p l e R s m args below meth c s.heap [] cells slots (MQ below (va_Sr (fun z => z = v) (fun q => .ref q)) args s cells slots (fun _ => False)) (F0 m pc ls [.ref a]) :=
  W.aret hexec hb hr hrt (Or.inr ⟨a, rfl⟩) (fun t ht hW => ⟨a, rfl, h, ht⟩) (fun q hq => absurd hq List.not_mem_nil) hdg hlocks
end WX
/-! what a change of one ride makes of the world -/
theorem wx_l.kept {G : wy_G} {L L' : List Nat} {f f' : Nat → va_E} {hl n : Nat} {ra : Nat → Nat} (h : wx_l G L f hl n ra) (hL : ∀ a, a ∈ L → a ∈ L') (h1 : f' hl = f hl) (h2 : ∀ a cap g, f a = .inl (G.2 2, cap, .inr (.inr (.inr (.inr g)))) → f' a = f a) : wx_l G L' f' hl n ra := by
  obtain ⟨md, he, cap, g, a1, a2, a3⟩ := h
  refine ⟨md, he, cap, g, ⟨hL _ a1.1, h1.trans a1.2⟩, ?_, a3⟩
  rcases a2 with a2 | a2
  · exact Or.inl a2
  · exact Or.inr ⟨hL _ a2.1, (h2 _ _ _ a2.2).trans a2.2⟩
theorem wx_S.ride {G : wy_G} {L : List Nat} {f f' : Nat → va_E} {hx hl : Nat} {ra ar : Nat → Nat} {n : Nat} {km mn : Int32} {wk : Nat} {po : Nat → Int32} {R : Nat → wr_V} (h : wx_S G L f hx hl ra ar n km mn wk po R) {k : Nat} (hk : k < n) {v : wr_V} (hv : wr_o G L f' (ra k) (ar (2 * k + 1)) (ar (2 * k + 2)) v) (hf : ∀ z, z ≠ ra k → z ≠ ar (2 * k + 1) → z ≠ ar (2 * k + 2) → f' z = f z) : wx_S G L f' hx hl ra ar n km mn wk po (va_up R k v) := by
  obtain ⟨h1, h2, h3, h4, h5, h6, h7, h8⟩ := h
  have hr := h4 k hk
  have key : ∀ (a : Nat) (e : va_E), f a = e → e ≠ f (ra k) → e ≠ f (ar (2 * k + 1)) → e ≠ f (ar (2 * k + 2)) → f' a = e := fun a e q n1 n2 n3 => by
    rw [hf a (fun z => n1 (by rw [← q, z])) (fun z => n2 (by rw [← q, z])) (fun z => n3 (by rw [← q, z])), q]
  have hra := hr.1.2
  have hca := hr.2.1.2
  have hda := hr.2.2.1.2
  refine ⟨⟨h1.1, key _ _ h1.2 (by rw [hra]; simp) (by rw [hca]; simp) (by rw [hda]; simp)⟩, ?_, ⟨h3.1, ?_⟩, ?_, h5, h6, h7, h8⟩
  · refine h2.kept (fun _ q => q) ?_ (fun a cap g q => ?_)
    · obtain ⟨md, he, cap, g, a1, -⟩ := h2
      exact (key _ _ a1.2 (by rw [hra]; simp) (by rw [hca]; simp) (by rw [hda]; simp)).trans a1.2.symm
    · exact (key _ _ q (by rw [hra]; simp) (by rw [hca]; simp) (by rw [hda]; simp)).trans q.symm
  · rw [hf _ (fun z => ?_) (fun z => ?_) (fun z => ?_)]
    · exact h3.2
    · have := h3.2; rw [z, hra] at this; cases this
    · have := h8 0 (2 * k + 1) (by omega) (by omega) z; omega
    · have := h8 0 (2 * k + 2) (by omega) (by omega) z; omega
  · intro j hj
    by_cases e : j = k
    · subst e; rw [va_up_self]; exact hv
    · rw [va_up_ne _ _ e]
      have hj' := h4 j hj
      have ne3 : ∀ i i', i < 2 * n + 1 → i' < 2 * n + 1 → i ≠ i' → ar i ≠ ar i' := fun i i' q1 q2 q3 z => q3 (h8 i i' q1 q2 z)
      refine hj'.kept (fun _ q => q) ?_ ?_ ?_
      · exact hf _ (fun z => e (h7 j k hj hk z)) (fun z => by have := hj'.1.2; rw [z, hca] at this; cases this) (fun z => by have := hj'.1.2; rw [z, hda] at this; cases this)
      · exact hf _ (fun z => by have := hj'.2.1.2; rw [z, hra] at this; cases this) (ne3 _ _ (by omega) (by omega) (by omega)) (ne3 _ _ (by omega) (by omega) (by omega))
      · exact hf _ (fun z => by have := hj'.2.2.1.2; rw [z, hra] at this; cases this) (ne3 _ _ (by omega) (by omega) (by omega)) (ne3 _ _ (by omega) (by omega) (by omega))
