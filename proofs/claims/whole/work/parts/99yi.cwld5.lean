/-! statics, the mirror, the words of nests at the law's entry -/
theorem wl_N {s : State} {b : Nat} (hts : ∀ w ∈ lw_tbl, w.before #[Value.ref b] s = true) : ∀ w ∈ xnw, va_Nw w s := fun w hw => by
  have h := List.mem_filter.mp hw
  have h2 := h.2
  exact va_any (by cases w <;> first | rfl | cases h2) (hts w h.1)
theorem wl_Z {s : State} {b : Nat} {A : Nat → Prop} (hts : ∀ w ∈ lw_tbl, w.before #[Value.ref b] s = true) (hgv : (Jvm.Cond.and given_1 narrow_1).before #[Value.ref b] s = true) (hA : ∀ a : Nat, a < s.heap.size → ¬ A a) : va_Z "java/lang/String" "COMPACT_STRINGS" "Z" (.int 1) A s s.heap ∧ va_Zq "jdk/internal/util/Preconditions" "SIOOBE_FORMATTER" "Ljava/util/function/BiFunction;" A s s.heap ∧ ∃ mi, va_Mi "[Ljava/lang/Object;" mi s := by
  have hs := flat_of_before _ hgv
  refine ⟨va_Zof (hts _ (by decide +kernel)) (hts _ (by decide +kernel)) (va_eqt (hs _ (by decide +kernel))) hA, va_Zqof (hts _ (by decide +kernel)) (hts _ (by decide +kernel)) (hs _ (by decide +kernel)) hA, va_Mi.of (hs (.isRef (.mirror "[Ljava/lang/Object;")) (by decide +kernel))⟩
