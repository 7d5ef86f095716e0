/-! strings, classes -/
theorem wl_str {s : State} {b : Nat} {A : Nat → Prop} (hts : ∀ w ∈ lw_tbl, w.before #[Value.ref b] s = true) (hgv : (Jvm.Cond.and given_1 narrow_1).before #[Value.ref b] s = true) (hA : ∀ a : Nat, a < s.heap.size → ¬ A a) : ∀ i : Fin 34, ∃ q : Nat × Nat, vk_R (xsO i) (xsK i) (xsT i) q.1 s ∧ va_O "java/lang/String" q.1 A s s.heap ∧ va_OF "java/lang/String" "coder" "B" (.int 0) q.1 A s s.heap ∧ va_OF "java/lang/String" "value" "[B" (.ref q.2) q.1 A s s.heap ∧ va_T .byte q.2 (xsB i).length (fun j => .int ((xsB i).getD j 0)) A s s.heap := by
  have hs := flat_of_before _ hgv
  have h1 : ∀ i : Fin 34, (Cond.exactly (.string (xsO i) (xsK i)) "java/lang/String").before #[Value.ref b] s = true := fun i => hs _ (by revert i; decide +kernel)
  have h2 : ∀ i : Fin 34, (Cond.eq (.field (.string (xsO i) (xsK i)) "java/lang/String" "coder" "B") (.int 0)).before #[Value.ref b] s = true := fun i => hs _ (by revert i; decide +kernel)
  have h3 : ∀ i : Fin 34, (Cond.arrayOf (.field (.string (xsO i) (xsK i)) "java/lang/String" "value" "[B") .byte).before #[Value.ref b] s = true := fun i => hs _ (by revert i; decide +kernel)
  have h4 : ∀ i : Fin 34, (Cond.eq (.length (.field (.string (xsO i) (xsK i)) "java/lang/String" "value" "[B")) (.int (Int32.ofNat (xsB i).length))).before #[Value.ref b] s = true := fun i => hs _ (by revert i; decide +kernel)
  have h5 : ∀ i : Fin 34, ∀ j : Fin 20, j.val < (xsB i).length → (Cond.eq (.elem (.field (.string (xsO i) (xsK i)) "java/lang/String" "value" "[B") (.int (Int32.ofNat j.val))) (.int ((xsB i).getD j.val 0))).before #[Value.ref b] s = true := fun i => match i with
    | ⟨0, _⟩ => wl_e0 hgv
    | ⟨1, _⟩ => wl_e1 hgv
    | ⟨2, _⟩ => wl_e2 hgv
    | ⟨3, _⟩ => wl_e3 hgv
    | ⟨4, _⟩ => wl_e4 hgv
    | ⟨5, _⟩ => wl_e5 hgv
    | ⟨6, _⟩ => wl_e6 hgv
    | ⟨7, _⟩ => wl_e7 hgv
    | ⟨8, _⟩ => wl_e8 hgv
    | ⟨9, _⟩ => wl_e9 hgv
    | ⟨10, _⟩ => wl_e10 hgv
    | ⟨11, _⟩ => wl_e11 hgv
    | ⟨12, _⟩ => wl_e12 hgv
    | ⟨13, _⟩ => wl_e13 hgv
    | ⟨14, _⟩ => wl_e14 hgv
    | ⟨15, _⟩ => wl_e15 hgv
    | ⟨16, _⟩ => wl_e16 hgv
    | ⟨17, _⟩ => wl_e17 hgv
    | ⟨18, _⟩ => wl_e18 hgv
    | ⟨19, _⟩ => wl_e19 hgv
    | ⟨20, _⟩ => wl_e20 hgv
    | ⟨21, _⟩ => wl_e21 hgv
    | ⟨22, _⟩ => wl_e22 hgv
    | ⟨23, _⟩ => wl_e23 hgv
    | ⟨24, _⟩ => wl_e24 hgv
    | ⟨25, _⟩ => wl_e25 hgv
    | ⟨26, _⟩ => wl_e26 hgv
    | ⟨27, _⟩ => wl_e27 hgv
    | ⟨28, _⟩ => wl_e28 hgv
    | ⟨29, _⟩ => wl_e29 hgv
    | ⟨30, _⟩ => wl_e30 hgv
    | ⟨31, _⟩ => wl_e31 hgv
    | ⟨32, _⟩ => wl_e32 hgv
    | ⟨33, _⟩ => wl_e33 hgv
    | ⟨n + 34, h⟩ => absurd h (by omega)
  have h6 : ∀ i : Fin 34, (xsB i).length < 20 := by decide +kernel
  intro i
  have l := h6 i
  exact wl_s1 (by omega) (hts _ (wl_k1 i)) (h1 i) (h2 i) (h3 i) (h4 i) (fun j hj => h5 i ⟨j, by omega⟩ hj) hA
