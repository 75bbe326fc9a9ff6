def lwA (s : State) : Nat → Prop := fun q => s.heap.size ≤ q
/-! what the Statement gives of the start -/
theorem ws_N {s : State} {args : Array Value} (hg : (Cond.and given_1 narrow_1).before args s = true) : wc_N s := by
  have hf := flat_of_before _ hg
  exact ⟨va_Nc.of (hf (.not (.castable "java/lang/IllegalStateException" "java/lang/IndexOutOfBoundsException")) (by decide +kernel)), va_Nc.of (hf (.not (.castable "java/lang/IllegalArgumentException" "java/lang/IndexOutOfBoundsException")) (by decide +kernel)), va_Nc.of (hf (.not (.castable "java/lang/IllegalStateException" "java/lang/IllegalArgumentException")) (by decide +kernel))⟩
