/-! the world at the law's entry: the constants lie apart -/
theorem wk_fit {s : State} (hF : heapFits s = true) {a : Nat} {cell : Cell} {ty : FieldType} (hc : s.heap[a]? = some cell) (har : s.isArrayOf cell ty) {i : Nat} {v : Value} (hv : cell.slots[i]? = some v) : fits ty v = true := by
  obtain ⟨hobj, k, hk, comp, hkind⟩ := har
  obtain ⟨h1, h2⟩ := Array.getElem?_eq_some_iff.mp hc
  unfold heapFits at hF
  rw [Array.all_eq_true] at hF
  have h3 := hF a h1
  rw [h2] at h3
  unfold cellFits at h3
  rw [List.all_eq_true] at h3
  have hi : i < cell.slots.size := (Array.getElem?_eq_some_iff.mp hv).1
  have h := h3 i (List.mem_range.mpr hi)
  rw [hv] at h
  have h : s.fitsSlot cell.cls cell.vm i v = true := h
  cases hvm : cell.vm <;> first | exact absurd hvm (hobj _) | simpa [State.fitsSlot, State.slotType?, hvm, hk, hkind] using h
def wkS (H : Heap) (q : Nat) : Prop := ∃ cell : Cell, H[q]? = some cell ∧ (∃ (i : Nat) (r : Nat), cell.slots[i]? = some (.ref r)) ∧ ∃ (i : Nat) (v : Int32), cell.slots[i]? = some (.int v)
def wkA (s : State) (H : Heap) (ty : FieldType) (q : Nat) : Prop := ∃ cell : Cell, H[q]? = some cell ∧ s.isArrayOf cell ty
theorem wkS.lt {H : Heap} {q : Nat} (h : wkS H q) : q < H.size := by
  obtain ⟨cell, e, -⟩ := h
  exact (Array.getElem?_eq_some_iff.mp e).1
theorem wkA.lt {s : State} {H : Heap} {ty : FieldType} {q : Nat} (h : wkA s H ty q) : q < H.size := by
  obtain ⟨cell, e, -⟩ := h
  exact (Array.getElem?_eq_some_iff.mp e).1
theorem wk_SA {s : State} (hF : heapFits s = true) {ty : FieldType} {q q' : Nat} (h1 : wkS s.heap q) (h2 : wkA s s.heap ty q') (e : q = q') : False := by
  subst e
  obtain ⟨cell, e1, ⟨i, r, e2⟩, j, v, e3⟩ := h1
  obtain ⟨cell', f1, f2⟩ := h2
  cases e1.symm.trans f1
  have a := wk_fit hF f1 f2 e2
  have b := wk_fit hF f1 f2 e3
  cases ty <;> first | (cases a; done) | (cases b; done) | (simp [fits] at a; done) | (simp [fits] at b; done)
theorem wk_AA {s : State} {H : Heap} {ty ty' : FieldType} {q q' : Nat} (h1 : wkA s H ty q) (h2 : wkA s H ty' q') (e : q = q') : ty = ty' := by
  subst e
  obtain ⟨cell, e1, -, k, e2, comp, e3⟩ := h1
  obtain ⟨cell', f1, -, k', f2, comp', f3⟩ := h2
  cases e1.symm.trans f1
  cases e2.symm.trans f2
  cases e3.symm.trans f3
  rfl
theorem wk_T {ty : FieldType} {t N : Nat} {f : Nat → Value} {A : Nat → Prop} {s : State} {H : Heap} (h : va_T ty t N f A s H) : wkA s H ty t := by
  obtain ⟨c, e1, e2, -⟩ := h
  exact ⟨c, e1, e2⟩
theorem wk_X {b L : Nat} {xs : Nat → Int32} {s : State} {H : Heap} (h : va_X b L xs s H) : wkA s H .int b := by
  obtain ⟨c, e1, e2, -⟩ := h
  exact ⟨c, e1, e2⟩
theorem wk_O {t r : Nat} {A : Nat → Prop} {s : State} {H : Heap} (h1 : va_OF "java/lang/String" "coder" "B" (.int 0) t A s H) (h2 : va_OF "java/lang/String" "value" "[B" (.ref r) t A s H) : wkS H t := by
  obtain ⟨cf, k, i, f, c, -, -, e1, -, e2, -⟩ := h1
  obtain ⟨cf', k', i', f', c', -, -, g1, -, g2, -⟩ := h2
  cases e1.symm.trans g1
  exact ⟨c, e1, ⟨_, _, g2⟩, _, _, e2⟩
theorem wk_val {t r r' : Nat} {A : Nat → Prop} {s : State} {H : Heap} (h1 : va_OF "java/lang/String" "value" "[B" (.ref r) t A s H) (h2 : va_OF "java/lang/String" "value" "[B" (.ref r') t A s H) : r = r' := by
  obtain ⟨cf, k, i, f, c, e0, -, e1, -, e2, -⟩ := h1
  obtain ⟨cf', k', i', f', c', g0, -, g1, -, g2, -⟩ := h2
  cases e1.symm.trans g1
  cases e0.symm.trans g0
  cases e2.symm.trans g2
  rfl
theorem wk_len {ty : FieldType} {t N N' : Nat} {f f' : Nat → Value} {A : Nat → Prop} {s : State} {H : Heap} (h1 : va_T ty t N f A s H) (h2 : va_T ty t N' f' A s H) (hN : N < 2 ^ 31) (hN' : N' < 2 ^ 31) : N = N' ∧ ∀ j, j < N → f j = f' j := by
  obtain ⟨c, e1, -, -, -, e2, e3, -⟩ := h1
  obtain ⟨c', f1, -, -, -, f2, f3, -⟩ := h2
  cases e1.symm.trans f1
  have e : nI N = nI N' := e2.symm.trans f2
  have e4 : N = N' := (nI_eq hN hN').mp e
  subst e4
  exact ⟨rfl, fun j hj => Option.some.inj ((e3 j hj).symm.trans (f3 j hj))⟩
theorem wk_B {i j : Nat} (h : (xsB i).length = (xsB j).length) (h2 : ∀ x, x < (xsB i).length → Value.int ((xsB i).getD x 0) = Value.int ((xsB j).getD x 0)) : xsB i = xsB j := by
  apply List.ext_getElem h
  intro x a b
  have e := Value.int.inj (h2 x a)
  simp only [List.getD_eq_getElem?_getD, List.getElem?_eq_getElem a, List.getElem?_eq_getElem b, Option.getD_some] at e
  exact e
theorem wk_s (i : Nat) : (xsB i).length < 2 ^ 31 := by
  by_cases h : i < 34
  · have : ∀ k : Fin 34, (xsB k.val).length < 20 := by decide +kernel
    exact Nat.lt_of_lt_of_le (this ⟨i, h⟩) (by decide)
  · have : xsl[i]? = none := List.getElem?_eq_none (by
      have : xsl.length = 34 := by decide +kernel
      omega)
    unfold xsB
    rw [List.getD_eq_getElem?_getD, this]
    decide
theorem wk_i {mi i : Nat} (h : (xkc mi i).isSome = true) : i < 34 ∨ (∃ k, k < 34 ∧ i = 40 + k) ∨ i = 80 ∨ i = 81 ∨ i = 82 := by
  unfold xkc at h
  split at h
  · rename_i hi
    exact Or.inl hi
  · split at h
    · rename_i hi
      exact Or.inr (Or.inl ⟨i - 40, by omega, by omega⟩)
    · split at h
      · rename_i hi
        exact Or.inr (Or.inr (Or.inl hi))
      · split at h
        · rename_i hi
          exact Or.inr (Or.inr (Or.inr (Or.inl hi)))
        · split at h
          · rename_i hi
            exact Or.inr (Or.inr (Or.inr (Or.inr hi)))
          · cases h
theorem wk_c5 {mi i j : Nat} (hi : i < 34) (hj : j < 34) (e : xsB i = xsB j) : xkc mi i = xkc mi j := by
  rw [xkc_str hi, xkc_str hj, e]
theorem wk_c7' {mi i : Nat} (hi : i < 34) : xkc mi (40 + i) = some (.inl (7, (xsB i).length, .inl (fun j => (xsB i).getD j 0))) := by
  unfold xkc
  rw [if_neg (by omega), if_pos (by omega), Nat.add_sub_cancel_left]
theorem wk_c7 {mi i j : Nat} (hi : i < 34) (hj : j < 34) (e : xsB i = xsB j) : xkc mi (40 + i) = xkc mi (40 + j) := by
  rw [wk_c7' hi, wk_c7' hj, e]
def wS0 (mi : Nat) (ad : Nat → Nat) : xH := fun q => ((List.range 83).find? (fun i => (xkc mi i).isSome && ad i == q)).bind (xkc mi)
theorem wS0_of {mi : Nat} {ad : Nat → Nat} (hu : ∀ i j, (xkc mi i).isSome = true → (xkc mi j).isSome = true → ad i = ad j → xkc mi i = xkc mi j) {i : Nat} {c : xE} (h : xkc mi i = some c) : wS0 mi ad (ad i) = some c := by
  have hs : (xkc mi i).isSome = true := by rw [h]; rfl
  have hi : i < 83 := by
    rcases wk_i hs with q | ⟨k, q, q'⟩ | q | q | q <;> omega
  unfold wS0
  cases hf : (List.range 83).find? (fun j => (xkc mi j).isSome && ad j == ad i) with
  | none =>
    rw [List.find?_eq_none] at hf
    have e := hf i (List.mem_range.mpr hi)
    exact absurd (by rw [hs, Bool.true_and]; exact beq_self_eq_true _) e
  | some j =>
    have e := List.find?_some hf
    have e1 := Bool.and_eq_true_iff.mp e
    show xkc mi j = some c
    rw [hu j i e1.1 hs (beq_iff_eq.mp e1.2), h]
theorem wS0_inv {mi : Nat} {ad : Nat → Nat} {q : Nat} {c : xE} (h : wS0 mi ad q = some c) : ∃ i, xkc mi i = some c ∧ ad i = q := by
  unfold wS0 at h
  cases hf : (List.range 83).find? (fun j => (xkc mi j).isSome && ad j == q) with
  | none =>
    rw [hf] at h
    cases h
  | some j =>
    rw [hf] at h
    have e := List.find?_some hf
    exact ⟨j, h, beq_iff_eq.mp (Bool.and_eq_true_iff.mp e).2⟩
theorem wl_ad {P : Nat → Nat → Nat → Prop} (h : ∀ i : Fin 34, ∃ q : Nat × Nat, P i.val q.1 q.2) (tT tE b mi : Nat) : ∃ ad : Nat → Nat, (∀ i, i < 34 → P i (ad i) (ad (40 + i))) ∧ ad 80 = tT ∧ ad 81 = tE ∧ ad 82 = b ∧ ad 83 = mi := by
  have h' : ∃ σ : Nat → Nat × Nat, ∀ i, i < 34 → P i (σ i).1 (σ i).2 := ⟨fun i => if h0 : i < 34 then (h ⟨i, h0⟩).choose else (0, 0), fun i hi => by
    dsimp only
    rw [dif_pos hi]
    exact (h ⟨i, hi⟩).choose_spec⟩
  obtain ⟨σ, hσ⟩ := h'
  refine ⟨fun i => if i < 34 then (σ i).1 else if i < 74 then (σ (i - 40)).2 else if i = 80 then tT else if i = 81 then tE else if i = 82 then b else mi, fun i hi => ?_, rfl, rfl, rfl, rfl⟩
  dsimp only
  rw [if_pos hi, if_neg (show ¬ 40 + i < 34 by omega), if_pos (show 40 + i < 74 by omega), Nat.add_sub_cancel_left]
  exact hσ i hi
