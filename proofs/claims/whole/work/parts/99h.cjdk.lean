/-! arrays of references, copies, clones -/
theorem kw324 : Cond.sameMethod "[B" "java/lang/Object" "clone" "()Ljava/lang/Object;" ∈ xws := xw_t2 84 (by decide +kernel) rfl
theorem kw325 : Cond.native ⟨"java/lang/Object", "clone", "()Ljava/lang/Object;"⟩ ∈ xws := xw_t2 85 (by decide +kernel) rfl
theorem kw335 : Cond.native arraycopyName ∈ xws := xw_t2 95 (by decide +kernel) rfl
theorem kw763 : Cond.native ⟨"java/lang/Object", "getClass", "()Ljava/lang/Class;"⟩ ∈ xws := xw_t4 43 (by decide +kernel) rfl
section XQ
variable {G : xG} {l : Launch} {M : xMd} {X : Array Value → State → Prop} {P : xP} {pc index : Nat} {k : xK}
abbrev qA (n : Nat) (f : Nat → Option Nat) : xE := .inl (3, n, .inr (.inr (.inr (.inr f))))
def x_anew (k : xK) : xK := fun lv st S => match st with
  | .int n :: r => ¬ n < 0 ∧ n.toNatClampNeg ≤ 100000 ∧ 1 ≤ S.2.2.1 ∧ n.toNatClampNeg ≤ S.2.2.2 ∧ k lv (.ref S.2.1 :: r) (xup S.1 S.2.1 (qA n.toNatClampNeg (fun _ => none)), S.2.1 + 1, S.2.2.1 - 1, S.2.2.2 - n.toNatClampNeg)
  | _ => False
theorem xo_anew (hw : Cond.classLink M.2.1 index "java/lang/Object" ∈ xws) (hd : decode M.1 pc = .ok (.anewarray index, 3)) (h : xW G l M X P (pc + 3) k) : xW G l M X P pc (x_anew k) := by
  intro p e s m args below meth c C lv st S H locs cells slots ls hK hl hR hS hc hs
  unfold x_anew at hK
  split at hK
  · rename_i n r
    obtain ⟨hn, hN, hb1, hb2, hK⟩ := hK
    obtain ⟨z1, z2, z3, z4, z5, z6, z7, z8, z9, z10, z11, z12, z13, z14⟩ := C.2.2.2.2.2.2.2.2.1.2.2
    refine W.anew C.1 C.2.1 C.2.2.2.1 (C.2.2.2.2.1 _ hw) (va_AO.use z11) rfl hd rfl hn (by omega) (by omega) (by omega) fun cA kA comp f1 f2 f3 f4 => ?_
    obtain ⟨-, -, -, -, -, g4⟩ := (C.2.2.2.2.2.2.2.2.1.1.2 3 _ rfl).2
    have hcA : cA = G.2.1 3 := Option.some.inj (f1.symm.trans g4)
    subst hcA
    have z1 : (H.push ({ cls := G.2.1 3, slots := Array.replicate n.toNatClampNeg .null, vm := .none } : Cell)).size = H.size + 1 := Array.size_push ..
    have o1 : ∀ q : Nat, q < H.size → (H.push ({ cls := G.2.1 3, slots := Array.replicate n.toNatClampNeg .null, vm := .none } : Cell))[q]? = H[q]? := fun q hq => by rw [Array.getElem?_push, if_neg (Nat.ne_of_lt hq)]
    have e1 : (H.push ({ cls := G.2.1 3, slots := Array.replicate n.toNatClampNeg .null, vm := .none } : Cell))[H.size]? = some (arrV (G.2.1 3) n.toNatClampNeg (fun _ => .null)) := by rw [Array.getElem?_push_size, ← arrV_new]
    rw [hR.1] at hK
    exact h p e s m args below meth c C _ _ _ _ locs (cells + 1) (slots + n.toNatClampNeg) ls hK hl (by rw [← hR.1]; exact hR.push (c' := qA n.toNatClampNeg (fun _ => none)) z1 o1 ⟨(by show (3 : Nat) < 4; decide), e1⟩ rfl) (xS_push hS z1 o1) (by show cells + 1 + (S.2.2.1 - 1) ≤ _; omega) (by show slots + _ + (S.2.2.2 - _) ≤ _; omega)
  · exact hK.elim
def x_aastN (k : xK) : xK := fun lv st S => match st with
  | .null :: .int i :: .ref a :: r => (match S.1 a with
    | some (.inl (3, n, .inr (.inr (.inr (.inr f))))) => vp_in i n ∧ k lv r (xup S.1 a (qA n (va_up f i.toNatClampNeg none)), S.2)
    | _ => False)
  | _ => False
theorem qst_eq {cA : ClassId} {n i : Nat} {f : Nat → Option Nat} {w : Option Nat} : (arrV cA n (fun j => va_rf (f j))).setSlot i (va_rf w) = arrV cA n (fun j => va_rf (va_up f i w j)) := by
  rw [arrV_store]
  congr 1
  funext q
  by_cases hq : q = i
  · subst hq
    simp [updV, va_up]
  · simp [updV, va_up, hq]
theorem xo_aastN (hd : decode M.1 pc = .ok (.aastore, 1)) (h : xW G l M X P (pc + 1) k) : xW G l M X P pc (x_aastN k) := by
  intro p e s m args below meth c C lv st S H locs cells slots ls hK hl hR hS hc hs
  unfold x_aastN at hK
  split at hK
  · split at hK
    · rename_i i a r _ n f ea
      have hA := (hR.2.2.1 a _ ea rfl).2.2
      refine va_WaastN (C := "java/lang/Object") C.1 C.2.1 hA ((C.2.2.2.2.2.2.2.2.1.1.2 3 _ rfl).1 n (fun j => va_rf (f j))) (fun q => by cases q) (by show ¬ (i < 0 ∨ (arrV _ _ _).slots.size ≤ _); rw [arrV_size]; exact hK.1) rfl rfl hd fun H1 e1 z oq => ?_
      refine h p e s m args below meth c C _ _ _ H1 _ cells slots ls hK.2 hl (hR.put ea z oq ⟨(by show (3 : Nat) < 4; decide), ?_⟩ rfl rfl) (hS.put z oq (hR.2.2.1 a _ ea rfl).1) hc hs
      exact e1.trans (congrArg some (qst_eq (w := none)))
    · exact hK.elim
  · exact hK.elim
def x_aast (k : xK) : xK := fun lv st S => match st with
  | .ref v :: .int i :: .ref a :: r => (match S.1 a with
    | some (.inl (3, n, .inr (.inr (.inr (.inr f))))) => vp_in i n ∧ (∃ fs, S.1 v = some (.inr (2, fs))) ∧ k lv r (xup S.1 a (qA n (va_up f i.toNatClampNeg (some v))), S.2)
    | _ => False)
  | _ => False
theorem xo_aast (hd : decode M.1 pc = .ok (.aastore, 1)) (h : xW G l M X P (pc + 1) k) : xW G l M X P pc (x_aast k) := by
  intro p e s m args below meth c C lv st S H locs cells slots ls hK hl hR hS hc hs
  unfold x_aast at hK
  split at hK
  · split at hK
    · rename_i v i a r _ n f ea
      obtain ⟨hi, ⟨fs, ev⟩, hK⟩ := hK
      obtain ⟨z1, z2, z3, z4, z5, z6, z7, z8, z9, z10, z11, z12, z13, z14⟩ := C.2.2.2.2.2.2.2.2.1.2.2
      have hA := (hR.2.2.1 a _ ea rfl).2.2
      obtain ⟨kA, comp, r1, r2, r3, -⟩ := (C.2.2.2.2.2.2.2.2.1.1.2 3 _ rfl).2
      obtain ⟨kE, hkE, -⟩ := Vm.findClass_spec r3
      obtain ⟨c0, t0, f1, f2, f3⟩ := Cond.castable_spec (va_Nw.use (A := args) rfl z12)
      cases r3.symm.trans f2
      obtain ⟨rr, g1, cell, q1, q2, q3, -⟩ := (hR.2.2.1 v _ ev rfl).2
      have fc : s.vm.findClass "IntervalTape$Cell" = some cell.cls := by rw [q2]; exact (C.2.2.2.2.2.2.2.2.1.1.1 2 _ rfl).2.1
      cases fc.symm.trans f1
      obtain ⟨kV, hkV, -⟩ := Vm.findClass_spec fc
      refine W.aast C.1 C.2.1 (a := a) (v := v) (cell := vp_cell (G.2.1 3) (n, .inr (.inr (.inr (.inr f))))) (cv := cell) hA (fun q y => by cases y) (fun y => by cases y) r1 r2 rfl hkE (by show ¬ i < 0 ∧ _ < (arrV _ _ _).slots.size; rw [arrV_size]; have hi' : ¬ (i < 0 ∨ n ≤ i.toNatClampNeg) := hi; exact ⟨fun y => hi' (Or.inl y), Nat.lt_of_not_le (fun y => hi' (Or.inr y))⟩) q1 (fun q y => by rw [q3] at y; cases y) hkV f3 rfl rfl hd fun H1 e1 z oq => ?_
      refine h p e s m args below meth c C _ _ _ H1 _ cells slots ls hK hl (hR.put ea z oq ⟨(by show (3 : Nat) < 4; decide), ?_⟩ rfl rfl) (hS.put z oq (hR.2.2.1 a _ ea rfl).1) hc hs
      exact e1.trans (congrArg some (qst_eq (w := some v)))
    · exact hK.elim
  · exact hK.elim
/-- a heap in which one array has been written, with the places that were written -/
theorem va_S.many {A : Nat → Prop} {H0 H H1 : Heap} {locs L : List Loc} {a : Nat} (h : va_S A H0 H locs) (z : H1.size = H.size) (oq : ∀ q : Nat, q ≠ a → H1[q]? = H[q]?) (ha : A a) (hL : ∀ q ∈ L, q.base = a) : va_S A H0 H1 (locs ++ L) := by
  refine ⟨by rw [z]; exact h.1, fun q g1 g2 => (oq q (fun y => g2 (by rw [y]; exact ha))).trans (h.2.1 q g1 g2), fun q hq => ?_⟩
  rcases List.mem_append.mp hq with y | y
  · exact h.2.2 q y
  · show A q.base
    rw [hL q y]
    exact ha
theorem i_nn {z : Int32} (h : ¬ z < 0) : z.toInt = (z.toNatClampNeg : Int) := by
  have h2 := Int32.le_iff_toInt_le.mp (Int32.not_lt.mp h)
  have h3 : (0 : Int) ≤ z.toInt := h2
  show z.toInt = ((z.toInt.toNat : Nat) : Int)
  omega
theorem cell_cg (cA : ClassId) {n : Nat} {f g : Nat → Int32} (h : ∀ i, i < n → f i = g i) : vp_cell cA (n, .inl f) = vp_cell cA (n, .inl g) := by
  rw [vp_cell_i, vp_cell_i]
  unfold arrV
  congr 1
  congr 1
  funext j
  show Value.int (f j.val) = Value.int (g j.val)
  rw [h j.val j.isLt]
def x_copyb (k : xK) : xK := fun lv st S => match st with
  | .int n :: .int dp :: .ref a :: .int sp :: .ref a0 :: r => (match S.1 a0, S.1 a with
    | some (.inl (1, n0, .inl f)), some (.inl (1, n1, .inl g)) => ¬ sp < 0 ∧ ¬ dp < 0 ∧ ¬ n < 0 ∧ sp.toNatClampNeg + n.toNatClampNeg ≤ n0 ∧ dp.toNatClampNeg + n.toNatClampNeg ≤ n1 ∧ (∀ i, fits .byte (.int (f i)) = true) ∧ (r.map fun v => v.category).sum ≤ 8 ∧ ∃ g', (∀ i, i < n1 → va_cpy f g sp.toNatClampNeg dp.toNatClampNeg n.toNatClampNeg i = g' i) ∧ k lv r (xup S.1 a (.inl (1, n1, .inl g')), S.2)
    | _, _ => False)
  | _ => False
theorem xo_copyb (hd : decode M.1 pc = .ok (.invokestatic index, 3)) (hlk : Cond.methodLink M.2.1 index arraycopyName ∈ xws) (hst : Cond.static arraycopyName ∈ xws) (hin : Cond.initialized "java/lang/System" ∈ xws) (hroom : 1 ≤ M.2.2.2.2.2.frames ∧ 26 ≤ M.2.2.2.2.2.locals) (h : xW G l M X P (pc + 3) k) : xW G l M X P pc (x_copyb k) := by
  intro p e s m args below meth c C lv st S H locs cells slots ls hK hl hR hS hc hs
  unfold x_copyb at hK
  split at hK
  · split at hK
    · rename_i n dp a sp a0 r _ _ n0 f n1 g ea0 ea
      obtain ⟨h1, h2, h3, h4, h5, hf, hr, g', hg, hK⟩ := hK
      have c0 := (hR.2.2.1 a0 _ ea0 rfl).2.2
      have c1 := (hR.2.2.1 a _ ea rfl).2.2
      obtain ⟨-, k0, hk0, cm0, hkk0⟩ := (C.2.2.2.2.2.2.2.2.1.1.2 1 _ rfl).1 n0 (fun j => .int (f j))
      obtain ⟨-, k1, hk1, cm1, hkk1⟩ := (C.2.2.2.2.2.2.2.2.1.1.2 1 _ rfl).1 n1 (fun j => .int (g j))
      have ed : copied (vp_cell (G.2.1 1) (n0, .inl f)) (vp_cell (G.2.1 1) (n1, .inl g)) sp dp n = vp_cell (G.2.1 1) (n1, .inl g') := (va_copied (fun z => .int z) _ _ f g h4).trans (cell_cg _ hg)
      intro T hT Xs
      obtain ⟨vm', X', step⟩ := Xs.arraycopy C.1 C.2.2.2.1 (C.2.2.2.2.1 _ hlk) (C.2.2.2.2.1 _ kw335) (C.2.2.2.2.1 _ hst) (C.2.2.2.2.1 _ hin) (src := a0) (dst := a) (cs := vp_cell (G.2.1 1) (n0, .inl f)) (cd := vp_cell (G.2.1 1) (n1, .inl g)) (srcPos := sp) (destPos := dp) (n := n) (by rw [hT]; exact c0) (by rw [hT]; exact c1)
        (fun _ y => by cases y) (fun _ y => by cases y) (fun y => by cases y) (fun y => by cases y) hk0 hk1 hkk0 hkk1 rfl h1 h2 h3
        (by rw [i_nn h1, i_nn h3]; show ¬ _ > ((arrV _ n0 _).slots.size : Int); rw [arrV_size]; omega)
        (by rw [i_nn h2, i_nn h3]; show ¬ _ > ((arrV _ n1 _).slots.size : Int); rw [arrV_size]; omega)
        (fun vm1 _ i hi => by
          have er : (vp_cell (G.2.1 1) (n0, .inl f)).slots.getD (sp.toNatClampNeg + i) .null = .int (f (sp.toNatClampNeg + i)) := by
            rw [vp_cell_i, Array.getD_eq_getD_getElem?, arrV_read _ _ (by omega)]
            rfl
          rw [er]
          exact ⟨hf _, trivial⟩)
        (g := F0 m pc ls (.int n :: .int dp :: .ref a :: .int sp :: .ref a0 :: r)) rfl (by rw [C.2.2.1]; exact hl.1) (rest := r) rfl (by rw [C.2.1]; exact hd) hroom.1 (by
          have nw : nativeFrameWords "java/lang/System" "arraycopy" 5 = 7 := by decide
          show 2 * 0 + _ + _ ≤ _
          rw [nw]
          have := hroom.2
          omega)
      rw [ed] at X' step
      have la : a < T.heap.size := (Array.getElem?_eq_some_iff.mp (show T.heap[a]? = some _ by rw [hT]; exact c1)).1
      have b := h p e s m args below meth c C _ _ _ ((T.setVm vm').setCell a (vp_cell (G.2.1 1) (n1, .inl g'))).heap (locs ++ (((vp_cell (G.2.1 1) (n0, .inl f)).stretch sp.toNatClampNeg n.toNatClampNeg).zipIdx.map fun q => ⟨a, dp.toNatClampNeg + q.2⟩)) cells slots ls hK hl (hR.put ea (by rw [size_setCell]; show T.heap.size = _; rw [hT]) (fun q hq => by rw [heapAt_setCell_ne _ (Ne.symm hq)]; show T.heap[q]? = _; rw [hT]) ⟨(by show (1 : Nat) < 4; decide), heapAt_setCell_self _ la⟩ rfl rfl) (hS.many (a := a) (by rw [size_setCell]; show T.heap.size = _; rw [hT]) (fun q hq => by rw [heapAt_setCell_ne _ (Ne.symm hq)]; show T.heap[q]? = _; rw [hT]) (hR.2.2.1 a _ ea rfl).1 (fun q hq => by
        obtain ⟨w, -, rfl⟩ := List.mem_map.mp hq
        rfl)) hc hs
      obtain ⟨t, a1, b1⟩ := b _ rfl X'
      exact ⟨t, step t a1, b1⟩
    · exact hK.elim
  · exact hK.elim
def x_copyq (k : xK) : xK := fun lv st S => match st with
  | .int n :: .int dp :: .ref a :: .int sp :: .ref a0 :: r => (match S.1 a0, S.1 a with
    | some (.inl (3, n0, .inr (.inr (.inr (.inr f))))), some (.inl (3, n1, .inr (.inr (.inr (.inr g))))) => ¬ sp < 0 ∧ ¬ dp < 0 ∧ ¬ n < 0 ∧ sp.toNatClampNeg + n.toNatClampNeg ≤ n0 ∧ dp.toNatClampNeg + n.toNatClampNeg ≤ n1 ∧ (∀ i, i < n0 → ∀ y, f i = some y → ∃ fs, S.1 y = some (.inr (2, fs))) ∧ (r.map fun v => v.category).sum ≤ 8 ∧ k lv r (xup S.1 a (qA n1 (va_cpy f g sp.toNatClampNeg dp.toNatClampNeg n.toNatClampNeg)), S.2)
    | _, _ => False)
  | _ => False
theorem xo_copyq (hd : decode M.1 pc = .ok (.invokestatic index, 3)) (hlk : Cond.methodLink M.2.1 index arraycopyName ∈ xws) (hst : Cond.static arraycopyName ∈ xws) (hin : Cond.initialized "java/lang/System" ∈ xws) (hroom : 1 ≤ M.2.2.2.2.2.frames ∧ 26 ≤ M.2.2.2.2.2.locals) (h : xW G l M X P (pc + 3) k) : xW G l M X P pc (x_copyq k) := by
  intro p e s m args below meth c C lv st S H locs cells slots ls hK hl hR hS hc hs
  unfold x_copyq at hK
  split at hK
  · split at hK
    · rename_i n dp a sp a0 r _ _ n0 f n1 g ea0 ea
      obtain ⟨h1, h2, h3, h4, h5, hf, hr, hK⟩ := hK
      obtain ⟨z1, z2, z3, z4, z5, z6, z7, z8, z9, z10, z11, z12, z13, z14⟩ := C.2.2.2.2.2.2.2.2.1.2.2
      have c0 := (hR.2.2.1 a0 _ ea0 rfl).2.2
      have c1 := (hR.2.2.1 a _ ea rfl).2.2
      obtain ⟨kA, comp, r1, r2, r3, -⟩ := (C.2.2.2.2.2.2.2.2.1.1.2 3 _ rfl).2
      obtain ⟨kE, hkE, -⟩ := Vm.findClass_spec r3
      obtain ⟨y0, t0, f1, f2, f3⟩ := Cond.castable_spec (va_Nw.use (A := args) rfl z12)
      cases r3.symm.trans f2
      have ed : copied (vp_cell (G.2.1 3) (n0, .inr (.inr (.inr (.inr f))))) (vp_cell (G.2.1 3) (n1, .inr (.inr (.inr (.inr g))))) sp dp n = vp_cell (G.2.1 3) (n1, .inr (.inr (.inr (.inr (va_cpy f g sp.toNatClampNeg dp.toNatClampNeg n.toNatClampNeg))))) := by
        rw [vp_cell_q, vp_cell_q, vp_cell_q]
        exact va_copied (fun z => va_rf z) _ _ f g h4
      intro T hT Xs
      obtain ⟨vm', X', step⟩ := Xs.arraycopy C.1 C.2.2.2.1 (C.2.2.2.2.1 _ hlk) (C.2.2.2.2.1 _ kw335) (C.2.2.2.2.1 _ hst) (C.2.2.2.2.1 _ hin) (src := a0) (dst := a) (cs := vp_cell (G.2.1 3) (n0, .inr (.inr (.inr (.inr f))))) (cd := vp_cell (G.2.1 3) (n1, .inr (.inr (.inr (.inr g))))) (srcPos := sp) (destPos := dp) (n := n) (by rw [hT]; exact c0) (by rw [hT]; exact c1)
        (fun _ y => by cases y) (fun _ y => by cases y) (fun y => by cases y) (fun y => by cases y) r1 r1 r2 r2 rfl h1 h2 h3
        (by rw [i_nn h1, i_nn h3]; show ¬ _ > ((arrV _ n0 _).slots.size : Int); rw [arrV_size]; omega)
        (by rw [i_nn h2, i_nn h3]; show ¬ _ > ((arrV _ n1 _).slots.size : Int); rw [arrV_size]; omega)
        (fun vm1 hal i hi => by
          have er : (vp_cell (G.2.1 3) (n0, .inr (.inr (.inr (.inr f))))).slots.getD (sp.toNatClampNeg + i) .null = va_rf (f (sp.toNatClampNeg + i)) := by
            rw [vp_cell_q, Array.getD_eq_getD_getElem?, arrV_read _ _ (by omega)]
            rfl
          rw [er]
          cases hy : f (sp.toNatClampNeg + i) with
          | none => exact ⟨rfl, trivial⟩
          | some y =>
            obtain ⟨fs, ev⟩ := hf _ (by omega) y hy
            obtain ⟨rr, g1, cell, q1, q2, q3, -⟩ := (hR.2.2.1 y _ ev rfl).2
            have fc : s.vm.findClass "IntervalTape$Cell" = some cell.cls := by rw [q2]; exact (C.2.2.2.2.2.2.2.2.1.1.1 2 _ rfl).2.1
            cases fc.symm.trans f1
            obtain ⟨kV, hkV, -⟩ := Vm.findClass_spec fc
            obtain ⟨kV', hkV', -⟩ := hal.2.2 _ _ hkV
            obtain ⟨kE', hkE', -⟩ := hal.2.2 _ _ hkE
            refine ⟨rfl, cell, (show T.heap[y]? = some cell by rw [hT]; exact q1), (fun q w => by rw [q3] at w; cases w), ⟨kV', hkV'⟩, ⟨kE', hkE'⟩, ?_⟩
            show vm1.assignable _ _ = true
            rw [hal.assignable]
            exact f3)
        (g := F0 m pc ls (.int n :: .int dp :: .ref a :: .int sp :: .ref a0 :: r)) rfl (by rw [C.2.2.1]; exact hl.1) (rest := r) rfl (by rw [C.2.1]; exact hd) hroom.1 (by
          have nw : nativeFrameWords "java/lang/System" "arraycopy" 5 = 7 := by decide
          show 2 * 0 + _ + _ ≤ _
          rw [nw]
          have := hroom.2
          omega)
      rw [ed] at X' step
      have la : a < T.heap.size := (Array.getElem?_eq_some_iff.mp (show T.heap[a]? = some _ by rw [hT]; exact c1)).1
      have b := h p e s m args below meth c C _ _ _ ((T.setVm vm').setCell a (vp_cell (G.2.1 3) (n1, .inr (.inr (.inr (.inr (va_cpy f g sp.toNatClampNeg dp.toNatClampNeg n.toNatClampNeg))))))).heap (locs ++ (((vp_cell (G.2.1 3) (n0, .inr (.inr (.inr (.inr f))))).stretch sp.toNatClampNeg n.toNatClampNeg).zipIdx.map fun q => ⟨a, dp.toNatClampNeg + q.2⟩)) cells slots ls hK hl (hR.put ea (by rw [size_setCell]; show T.heap.size = _; rw [hT]) (fun q hq => by rw [heapAt_setCell_ne _ (Ne.symm hq)]; show T.heap[q]? = _; rw [hT]) ⟨(by show (3 : Nat) < 4; decide), heapAt_setCell_self _ la⟩ rfl rfl) (hS.many (a := a) (by rw [size_setCell]; show T.heap.size = _; rw [hT]) (fun q hq => by rw [heapAt_setCell_ne _ (Ne.symm hq)]; show T.heap[q]? = _; rw [hT]) (hR.2.2.1 a _ ea rfl).1 (fun q hq => by
        obtain ⟨w, -, rfl⟩ := List.mem_map.mp hq
        rfl)) hc hs
      obtain ⟨t, a1, b1⟩ := b _ rfl X'
      exact ⟨t, step t a1, b1⟩
    · exact hK.elim
  · exact hK.elim
def x_clone (k : xK) : xK := fun lv st S => match st with
  | .ref a :: r => (match S.1 a with
    | some (.inl (1, n, .inl f)) => (∀ i, fits .byte (.int (f i)) = true) ∧ (r.map fun v => v.category).sum ≤ 8 ∧ 1 ≤ S.2.2.1 ∧ n ≤ S.2.2.2 ∧ ∃ g', (∀ i, i < n → f i = g' i) ∧ k lv (.ref S.2.1 :: r) (xup S.1 S.2.1 (.inl (1, n, .inl g')), S.2.1 + 1, S.2.2.1 - 1, S.2.2.2 - n)
    | _ => False)
  | _ => False
theorem xo_clone (hd : decode M.1 pc = .ok (.invokevirtual index, 3)) (hlk : Cond.methodLink M.2.1 index ⟨"[B", "clone", "()Ljava/lang/Object;"⟩ ∈ xws) (hin : Cond.instanceMethod ⟨"java/lang/Object", "clone", "()Ljava/lang/Object;"⟩ ∈ xws) (hsel : Cond.selects "[B" ⟨"[B", "clone", "()Ljava/lang/Object;"⟩ ⟨"java/lang/Object", "clone", "()Ljava/lang/Object;"⟩ ∈ xws) (hroom : 1 ≤ M.2.2.2.2.2.frames ∧ 22 ≤ M.2.2.2.2.2.locals) (h : xW G l M X P (pc + 3) k) : xW G l M X P pc (x_clone k) := by
  intro p e s m args below meth c C lv st S H locs cells slots ls hK hl hR hS hc hs
  unfold x_clone at hK
  split at hK
  · split at hK
    · rename_i a r _ n f ea
      obtain ⟨hf, hr, hb1, hb2, g', hg, hK⟩ := hK
      obtain ⟨z1, z2, z3, z4, z5, z6, z7, z8, z9, z10, z11, z12, z13, z14⟩ := C.2.2.2.2.2.2.2.2.1.2.2
      have c0 := (hR.2.2.1 a _ ea rfl).2.2
      have hnm : s.vm.findClass "[B" = some (G.2.1 1) := (C.2.2.2.2.2.2.2.2.1.1.2 1 _ rfl).2
      obtain ⟨y0, t0, f1, f2, f3⟩ := Cond.castable_spec (va_Nw.use (A := args) rfl z14)
      cases hnm.symm.trans f1
      have hsz : (vp_cell (G.2.1 1) (n, .inl f)).slots.size = n := arrV_size _ _ _
      obtain ⟨-, kS, hkS, compS, hkindS⟩ := (C.2.2.2.2.2.2.2.2.1.1.2 1 _ rfl).1 0 (fun _ => .null)
      intro T hT Xs
      obtain ⟨-, kA, hkA, comp, hkind⟩ := State.isArrayOf_alike Xs.warmed.alike ((C.2.2.2.2.2.2.2.2.1.1.2 1 _ rfl).1 0 (fun _ => .null))
      obtain ⟨vm', X', st⟩ := Xs.cloneArray C.1 C.2.2.2.1 (C.2.2.2.2.1 _ hlk) (C.2.2.2.2.1 _ kw324) (C.2.2.2.2.1 _ kw325) (C.2.2.2.2.1 _ hin) (C.2.2.2.2.1 _ hsel) (a := a) (cell := vp_cell (G.2.1 1) (n, .inl f)) (by rw [hT]; exact c0) (fun q y => by cases y) (fun y => by cases y) hnm f2 f3
        (fun i v hv => by
          have hk' : T.vm.classes[G.2.1 1]? = some kA := hkA
          have hfi : fits .byte v = true := by
            rcases Nat.lt_or_ge i n with d | d
            · have er : (vp_cell (G.2.1 1) (n, .inl f)).slots[i]? = some (.int (f i)) := arrV_read _ _ d
              cases er.symm.trans hv
              exact hf i
            · rw [Array.getElem?_eq_none (by rw [hsz]; exact d)] at hv
              cases hv
          show State.fitsSlot T (G.2.1 1) .none i v = true
          simpa [State.fitsSlot, State.slotType?, hk', hkind] using hfi)
        (g := F0 m pc ls (.ref a :: r)) rfl (by rw [C.2.2.1]; exact hl.1) rfl (by rw [C.2.1]; exact hd) hroom.1 (by show 2 * 0 + _ + 14 ≤ _; have := hroom.2; omega) (by omega) (by rw [hsz]; omega) (hloader := Vm.clonesLoader_of_array hkS hkindS)
      rw [hsz] at X'
      have b := h p e s m args below meth c C _ _ _ (H.push (vp_cell (G.2.1 1) (n, .inl f))) locs (cells + 1) (slots + n) ls (by rw [hR.1] at hK; exact hK) hl (by rw [← hR.1]; exact hR.push (c' := .inl (1, n, .inl g')) (Array.size_push ..) (fun q hq => by rw [Array.getElem?_push, if_neg (Nat.ne_of_lt hq)]) ⟨(by show (1 : Nat) < 4; decide), by rw [Array.getElem?_push_size, cell_cg _ hg]⟩ rfl) (xS_push hS (Array.size_push ..) (fun q hq => by rw [Array.getElem?_push, if_neg (Nat.ne_of_lt hq)])) (by show cells + 1 + (S.2.2.1 - 1) ≤ _; omega) (by show slots + n + (S.2.2.2 - n) ≤ _; omega)
      obtain ⟨t, a1, b1⟩ := b ((T.setVm vm').pushCell (vp_cell (G.2.1 1) (n, .inl f))) (by rw [← hT]; rfl) X'
      refine ⟨t, st t ?_, b1⟩
      rw [hT]
      exact a1
    · exact hK.elim
  · exact hK.elim
def x_castB (k : xK) : xK := fun lv st S => match st with
  | .ref a :: r => (match S.1 a with
    | some (.inl (1, _, _)) => k lv (.ref a :: r) S
    | _ => False)
  | _ => False
theorem xo_castB (hd : decode M.1 pc = .ok (.checkcast index, 3)) (hlk : Cond.classLink M.2.1 index "[B" ∈ xws) (h : xW G l M X P (pc + 3) k) : xW G l M X P pc (x_castB k) := by
  intro p e s m args below meth c C lv st S H locs cells slots ls hK hl hR hS hc hs
  unfold x_castB at hK
  split at hK
  · split at hK
    · rename_i a r _ n f ea
      exact va_castA C.1 C.2.1 C.2.2.2.1 (C.2.2.2.2.1 _ hlk) (xP1 hR ea rfl).2 0 rfl (C.2.2.2.2.2.2.2.2.1.1.2 1 _ rfl).2 hd (h p e s m args below meth c C _ _ S H locs cells slots ls hK hl hR hS hc hs)
    · exact hK.elim
  · exact hK.elim
def x_getC (k : xK) : xK := fun lv st S => match st with
  | .ref a :: r => (match S.1 a with
    | some (.inl (3, _, _)) => (r.map fun v => v.category).sum ≤ 8 ∧ ∀ b, (∃ q, S.1 q = some (xkM b)) → (∀ q m, S.1 q = some (xkM m) → m = b) → k lv (.ref b :: r) S
    | _ => False)
  | _ => False
theorem xo_getC (hd : decode M.1 pc = .ok (.invokevirtual index, 3)) (hlk : Cond.methodLink M.2.1 index ⟨"java/lang/Object", "getClass", "()Ljava/lang/Class;"⟩ ∈ xws) (hin : Cond.instanceMethod ⟨"java/lang/Object", "getClass", "()Ljava/lang/Class;"⟩ ∈ xws) (hsel : Cond.selects "[Ljava/lang/Object;" ⟨"java/lang/Object", "getClass", "()Ljava/lang/Class;"⟩ ⟨"java/lang/Object", "getClass", "()Ljava/lang/Class;"⟩ ∈ xws) (hroom : 1 ≤ M.2.2.2.2.2.frames ∧ 22 ≤ M.2.2.2.2.2.locals) (h : xW G l M X P (pc + 3) k) : xW G l M X P pc (x_getC k) := by
  intro p e s m args below meth c C lv st S H locs cells slots ls hK hl hR hS hc hs
  unfold x_getC at hK
  split at hK
  · split at hK
    · rename_i a r _ n f ea
      obtain ⟨hr, hK⟩ := hK
      obtain ⟨z1, z2, z3, z4, z5, z6, z7, z8, z9, z10, z11, z12, z13, z14⟩ := C.2.2.2.2.2.2.2.2.1.2.2
      have c0 := (hR.2.2.1 a _ ea rfl).2.2
      have hnm : s.vm.findClass "[Ljava/lang/Object;" = some (G.2.1 3) := va_nmO (C.2.2.2.2.2.2.2.2.1.1.2 3 _ rfl).2 rfl
      refine va_getC C.1 C.2.1 (by rw [C.2.2.1]; exact hl.1.symm) C.2.2.2.1 (C.2.2.2.2.1 _ hlk) (va_Dc.use z10) (C.2.2.2.2.1 _ hsel) (C.2.2.2.2.1 _ hin) (C.2.2.2.2.1 _ kw763) z9 ⟨_, c0, ?_, ?_⟩ hroom.1 (by have := hroom.2; omega) hd (h p e s m args below meth c C _ _ S H locs cells slots ls (hK _ ⟨_, (hR.2.2.2.2.1 82 _ xkc_M).1⟩ (xku9 hR)) hl hR hS hc hs)
      · rcases f with f | f | f | f | f <;> rfl
      · rw [hnm]
        rcases f with f | f | f | f | f <;> rfl
    · exact hK.elim
  · exact hK.elim
end XQ
