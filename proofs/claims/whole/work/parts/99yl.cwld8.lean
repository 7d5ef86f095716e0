/-! the world at the law's entry -/
theorem wl_world {s : State} {b L : Nat} {xs : Nat → Int32} (hts : ∀ w ∈ lw_tbl, w.before #[Value.ref b] s = true) (hgv : (Jvm.Cond.and given_1 narrow_1).before #[Value.ref b] s = true) (hF : heapFits s = true) (hX : va_X b L xs s s.heap) : ∃ (G : xG) (S : xS), G.2.2.1 = s.heap.size ∧ xI G s ∧ xRep G S s.heap ∧ (∀ q, S.2.1 ≤ q → S.1 q = none) ∧ S.2.2 = (600000, 7302250) := by
  have hA : ∀ a : Nat, a < s.heap.size → ¬ (fun q : Nat => s.heap.size ≤ q) a := fun a h => Nat.not_le.mpr h
  obtain ⟨dC, dI, hK⟩ := wl_K hts
  obtain ⟨cA, hAr⟩ := wl_A hts
  have hN := wl_N hts
  have hstr := wl_str hts hgv hA
  obtain ⟨z3, z4, mi, z9⟩ := wl_Z hts hgv hA
  obtain ⟨tT, z5, z6⟩ := wl_T hts hgv hA
  obtain ⟨tE, z7, z8⟩ := wl_E hts hgv hA
  obtain ⟨z10, z11, z12, z13, z14⟩ := wl_W hts
  obtain ⟨ad, hs, rfl, rfl, hb, rfl⟩ := wl_ad (P := fun i q r => vk_R (xsO i) (xsK i) (xsT i) q s ∧ va_O "java/lang/String" q (fun q : Nat => s.heap.size ≤ q) s s.heap ∧ va_OF "java/lang/String" "coder" "B" (.int 0) q (fun q : Nat => s.heap.size ≤ q) s s.heap ∧ va_OF "java/lang/String" "value" "[B" (.ref r) q (fun q : Nat => s.heap.size ≤ q) s s.heap ∧ va_T .byte r (xsB i).length (fun j => .int ((xsB i).getD j 0)) (fun q : Nat => s.heap.size ≤ q) s s.heap) hstr tT tE b mi
  have kS : ∀ i, i < 34 → wkS s.heap (ad i) := fun i hi => wk_O (hs i hi).2.2.1 (hs i hi).2.2.2.1
  have kB : ∀ i, i < 34 → wkA s s.heap .byte (ad (40 + i)) := fun i hi => wk_T (hs i hi).2.2.2.2
  have kT : wkA s s.heap .long (ad 80) := wk_T z6
  have kE : wkA s s.heap (.object "java/lang/Object") (ad 81) := wk_T z8
  have kM : wkA s s.heap .int (ad 82) := by rw [hb]; exact wk_X hX
  have heq : ∀ i j, i < 34 → j < 34 → ad (40 + i) = ad (40 + j) → xsB i = xsB j := fun i j hi hj e => by
    have h2 := (hs j hj).2.2.2.2
    rw [← e] at h2
    obtain ⟨e1, e2⟩ := wk_len (hs i hi).2.2.2.2 h2 (wk_s i) (wk_s j)
    exact wk_B e1 e2
  have hu : ∀ i j, (xkc (ad 83) i).isSome = true → (xkc (ad 83) j).isSome = true → ad i = ad j → xkc (ad 83) i = xkc (ad 83) j := by
    intro i j hi hj e
    rcases wk_i hi with qi | ⟨ki, qi, rfl⟩ | rfl | rfl | rfl
    · rcases wk_i hj with qj | ⟨kj, qj, rfl⟩ | rfl | rfl | rfl
      · have h2 := (hs j qj).2.2.2.1
        rw [← e] at h2
        exact wk_c5 qi qj (heq i j qi qj (wk_val (hs i qi).2.2.2.1 h2))
      · exact (wk_SA hF (kS i qi) (kB kj qj) e).elim
      · exact (wk_SA hF (kS i qi) kT e).elim
      · exact (wk_SA hF (kS i qi) kE e).elim
      · exact (wk_SA hF (kS i qi) kM e).elim
    · rcases wk_i hj with qj | ⟨kj, qj, rfl⟩ | rfl | rfl | rfl
      · exact (wk_SA hF (kS j qj) (kB ki qi) e.symm).elim
      · exact wk_c7 qi qj (heq ki kj qi qj e)
      · cases wk_AA (kB ki qi) kT e
      · cases wk_AA (kB ki qi) kE e
      · cases wk_AA (kB ki qi) kM e
    · rcases wk_i hj with qj | ⟨kj, qj, rfl⟩ | rfl | rfl | rfl
      · exact (wk_SA hF (kS j qj) kT e.symm).elim
      · cases wk_AA kT (kB kj qj) e
      · rfl
      · cases wk_AA kT kE e
      · cases wk_AA kT kM e
    · rcases wk_i hj with qj | ⟨kj, qj, rfl⟩ | rfl | rfl | rfl
      · exact (wk_SA hF (kS j qj) kE e.symm).elim
      · cases wk_AA kE (kB kj qj) e
      · cases wk_AA kE kT e
      · rfl
      · cases wk_AA kE kM e
    · rcases wk_i hj with qj | ⟨kj, qj, rfl⟩ | rfl | rfl | rfl
      · exact (wk_SA hF (kS j qj) kM e.symm).elim
      · cases wk_AA kM (kB kj qj) e
      · cases wk_AA kM kT e
      · cases wk_AA kM kE e
      · rfl
  have hlt : ∀ i, (xkc (ad 83) i).isSome = true → ad i < s.heap.size := by
    intro i hi
    rcases wk_i hi with qi | ⟨ki, qi, rfl⟩ | rfl | rfl | rfl
    · exact (kS i qi).lt
    · exact (kB ki qi).lt
    · exact kT.lt
    · exact kE.lt
    · exact kM.lt
  have hlt' : ∀ i c, xkc (ad 83) i = some c → ad i < s.heap.size := fun i c h => hlt i (by rw [h]; rfl)
  refine ⟨((dC, dI), cA, s.heap.size, s.heap, ad), (wS0 (ad 83) ad, s.heap.size, 600000, 7302250), rfl, ⟨⟨hK, hAr⟩, hN, fun i hi => (hs i hi).1, fun i hi => (hs i hi).2, z3, z4, z5, z6, z7, z8, z9, z10, z11, z12, z13, z14⟩, ⟨rfl, Nat.le_refl _, ?_, fun q _ => rfl, fun i c h => ⟨wS0_of hu h, hlt' i c h⟩, fun q c h _ => wS0_inv h⟩, ?_, rfl⟩
  · intro q c h h'
    obtain ⟨i, g, -⟩ := wS0_inv h
    rw [xkc_cn g] at h'
    cases h'
  · intro q hq
    cases h : wS0 (ad 83) ad q with
    | none => exact h
    | some c =>
      obtain ⟨i, g, e⟩ := wS0_inv h
      have := hlt' i c g
      have hq' : s.heap.size ≤ q := hq
      omega
/-- YOUR PART: from the entry, for every script of at most 3072 ints, the law comes to its end with true -/
theorem whole_start {p : Program} {e : Env} {s : State} {m : MethodId} {below : List Frame} {meth : Method} {c : Code} (l : Launch) {b L : Nat} {xs : Nat → Int32} (hL : L ≤ 3072) (C0 : lw_At p s m meth c b L xs) : W p l e room_1 s m #[Value.ref b] below meth c s.heap [] 0 0 (lw_Z below #[Value.ref b] s) (entryFrame m ([Value.ref b] : List Value).toArray 4) := by
  obtain ⟨hx, hb, hr, hml, hown, hts, hX, hbl, hlocks, hgv, hF⟩ := id C0
  obtain ⟨G, S, g1, hI, hR, hn, hS⟩ := wl_world hts hgv hF hX
  have hl := lv_entry ([.ref b]) (n := 4) (Nat.le_of_ble_eq_true rfl)
  rw [lg_entry_eq]
  have h1 : S.2.2.1 = 600000 := congrArg Prod.fst hS
  have h2 : S.2.2.2 = 7302250 := congrArg Prod.snd hS
  exact st_law (P := P_L) (KR := KR_L) (N := L) (xs := xs) G l hL (hR_L G l) (fun _ _ => rfl) p e s m #[Value.ref b] below meth c ⟨hx, hb, hml, hown, fun w hw => hts w (List.mem_filter.mp hw).1, hr, hlocks, (fun h => Bool.noConfusion h), hI, ⟨hX, hbl, by rw [g1]; exact hbl, rfl, g1.symm⟩, by rw [g1]; exact Nat.le_refl _⟩ [(0, .ref b)] [] S s.heap [] 0 0 _ ⟨rfl, rfl, hn, by rw [h1]; exact Nat.le_of_ble_eq_true rfl, by rw [h2]; exact Nat.le_of_ble_eq_true rfl⟩ hl hR va_S.rf (by rw [h1]; exact Nat.le_of_ble_eq_true rfl) (by rw [h2]; exact Nat.le_of_ble_eq_true rfl)
