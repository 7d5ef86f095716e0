/-! THE ABSTRACT MACHINE: a heap is a map from addresses to cells; a block of code is a predicate in continuation form (xK); xW says that the machine, standing at pc with a state of which the predicate holds, comes to the method's end. -/
abbrev xE : Type := (Nat × vp_A) ⊕ (Nat × List Value)
abbrev xH : Type := Nat → Option xE
/-- heap, its size, the cells and the slots that may still be made -/
abbrev xS : Type := xH × Nat × Nat × Nat
abbrev xK : Type := List (Nat × Value) → List Value → xS → Prop
abbrev xQ : Type := Option Value → xS → Prop
abbrev xC : Type := List Value → xS → xQ → Prop
/-! constants of the old heap: String literals (t = 5) and their bytes (7), a static array of longs (4), ArrayList's empty array (6), a mark (9, at the place of the law's own array) that bears the number of a class object -/
def xsl : List (String × Nat × String × List Int32) := [
  ("IntervalTape$Reader", 86, "entire", [101, 110, 116, 105, 114, 101]),
  ("IntervalTape$Reader", 100, "empty", [101, 109, 112, 116, 121]),
  ("IntervalTape$Reader", 101, "-inf", [45, 105, 110, 102]),
  ("IntervalTape$Reader", 124, "inity", [105, 110, 105, 116, 121]),
  ("IntervalTape$Reader", 129, "0x", [48, 120]),
  ("IntervalTape$Reader", 117, "inf", [105, 110, 102]),
  ("IntervalTape$Reader", 119, "+inf", [43, 105, 110, 102]),
  ("IntervalTape$Reader", 80, "trvdefdaccom", [116, 114, 118, 100, 101, 102, 100, 97, 99, 99, 111, 109]),
  ("IntervalTape$Writer", 32, "[nai]", [91, 110, 97, 105, 93]),
  ("IntervalTape$Writer", 42, "[empty]", [91, 101, 109, 112, 116, 121, 93]),
  ("IntervalTape$Writer", 48, "[entire]", [91, 101, 110, 116, 105, 114, 101, 93]),
  ("IntervalTape$Writer", 84, "inf", [105, 110, 102]),
  ("IntervalTape$Writer", 99, "0x", [48, 120]),
  ("IntervalTape$Writer", 101, "0123456789abcdef", [48, 49, 50, 51, 52, 53, 54, 55, 56, 57, 97, 98, 99, 100, 101, 102]),
  ("IntervalTape$Writer", 68, "trvdefdaccom", [116, 114, 118, 100, 101, 102, 100, 97, 99, 99, 111, 109]),
  ("IntervalTapeModel", 442, "empty", [101, 109, 112, 116, 121]),
  ("IntervalTapeModel", 444, "entire", [101, 110, 116, 105, 114, 101]),
  ("IntervalTapeModel", 453, "-inf", [45, 105, 110, 102]),
  ("IntervalTapeModel", 455, "-infinity", [45, 105, 110, 102, 105, 110, 105, 116, 121]),
  ("IntervalTapeModel", 457, "inf", [105, 110, 102]),
  ("IntervalTapeModel", 459, "+inf", [43, 105, 110, 102]),
  ("IntervalTapeModel", 461, "infinity", [105, 110, 102, 105, 110, 105, 116, 121]),
  ("IntervalTapeModel", 463, "+infinity", [43, 105, 110, 102, 105, 110, 105, 116, 121]),
  ("IntervalTapeModel", 430, "com", [99, 111, 109]),
  ("IntervalTapeModel", 436, "dac", [100, 97, 99]),
  ("IntervalTapeModel", 438, "def", [100, 101, 102]),
  ("IntervalTapeModel", 440, "trv", [116, 114, 118]),
  ("IntervalTapeModel", 485, "nai", [110, 97, 105]),
  ("IntervalTapeModel", 509, "0x0.", [48, 120, 48, 46]),
  ("IntervalTapeModel", 511, "0x1.", [48, 120, 49, 46]),
  ("IntervalTapeModel", 495, "_com", [95, 99, 111, 109]),
  ("IntervalTapeModel", 497, "_dac", [95, 100, 97, 99]),
  ("IntervalTapeModel", 499, "_def", [95, 100, 101, 102]),
  ("IntervalTapeModel", 501, "_trv", [95, 116, 114, 118])]
def xsB (i : Nat) : List Int32 := (xsl.getD i ("", 0, "", [])).2.2.2
def xsO (i : Nat) : String := (xsl.getD i ("", 0, "", [])).1
def xsK (i : Nat) : Nat := (xsl.getD i ("", 0, "", [])).2.1
def xsT (i : Nat) : String := (xsl.getD i ("", 0, "", [])).2.2.1
def xten : List Int64 := [1, 10, 100, 1000, 10000, 100000, 1000000, 10000000, 100000000, 1000000000, 10000000000, 100000000000, 1000000000000, 10000000000000, 100000000000000, 1000000000000000, 10000000000000000, 100000000000000000, 1000000000000000000]
def xkc (mi i : Nat) : Option xE := if i < 34 then some (.inl (5, (xsB i).length, .inl (fun j => (xsB i).getD j 0))) else if 40 ≤ i ∧ i < 74 then some (.inl (7, (xsB (i - 40)).length, .inl (fun j => (xsB (i - 40)).getD j 0))) else if i = 80 then some (.inl (4, 19, .inr (.inl (fun j => xten.getD j 0)))) else if i = 81 then some (.inl (6, 0, .inr (.inr (.inr (.inr (fun _ => none)))))) else if i = 82 then some (.inl (9, 0, .inr (.inr (.inr (.inr (fun _ => some mi)))))) else none
def xcn : xE → Bool := fun c => match c with
  | .inl a => Nat.ble 4 a.1
  | .inr _ => false
theorem xkc_cn {mi i : Nat} {c : xE} (h : xkc mi i = some c) : xcn c = true := by
  unfold xkc at h
  repeat' split at h
  all_goals first | (cases h; rfl) | cases h
/-- tables: classes and their slots; array classes; the oldest cell that may be written; the heap at the law's entry; where its constants lie -/
abbrev xG : Type := va_G × (Nat → ClassId) × Nat × Heap × (Nat → Nat)
/-- a method: code, class, locals, answer, whether a constructor, room -/
abbrev xMd : Type := ByteArray × String × Nat × Option FieldType × Bool × Room
def xup (h : xH) (a : Nat) (c : xE) : xH := fun q => if q = a then some c else h q
def xty : Nat → FieldType := fun k => match k with
  | 0 => .int
  | 1 => .byte
  | 2 => .long
  | _ => .object "java/lang/Object"
def xtys (G : xG) : List (ClassId × FieldType) := [(G.2.1 0, .int), (G.2.1 1, .byte), (G.2.1 2, .long), (G.2.1 3, .object "java/lang/Object")]
theorem xtys_at (G : xG) {t : Nat} (h : t < 4) : (xtys G)[t]? = some (G.2.1 t, xty t) := by
  rcases (show t = 0 ∨ t = 1 ∨ t = 2 ∨ t = 3 by omega) with rfl | rfl | rfl | rfl <;> rfl
def xws : List Cond := lw_tbl.filter goodWord
def xisN : Cond → Bool := fun w => match w with
  | .fieldLinkNest _ _ _ _ _ _ => true
  | .methodLinkNest _ _ _ _ => true
  | _ => false
def xnw : List Cond := lw_tbl.filter xisN
theorem xws_good : GoodIn xws xws := fun w h => ⟨h, good_of_word (List.mem_filter.mp h).2⟩
theorem xws_in {w : Cond} (i : Nat) (h : lw_tbl[i]? = some w) (g : goodWord w = true) : w ∈ xws := List.mem_filter.mpr ⟨List.mem_of_getElem? h, g⟩
theorem xnw_in {w : Cond} (i : Nat) (h : lw_tbl[i]? = some w) (g : xisN w = true) : w ∈ xnw := List.mem_filter.mpr ⟨List.mem_of_getElem? h, g⟩
theorem xnw_warm {s U : State} (hW : s.WarmedH U.vm) {w : Cond} (hw : w ∈ xnw) (h : va_Nw w s) : va_Nw w U := by
  have h2 := (List.mem_filter.mp hw).2
  cases w <;> first | exact va_Nw.warmF hW h | exact va_Nw.warmM hW h | cases h2
def xat (G : xG) (q : Nat) (c : xE) (H : Heap) : Prop := match c with
  | .inl a => a.1 < 4 ∧ H[q]? = some (vp_cell (G.2.1 a.1) a.2)
  | .inr o => va_at G.1 vwCl (q, .inr o) H
theorem xat_lt {G : xG} {q : Nat} {c : xE} {H : Heap} (h : xat G q c H) : q < H.size := by
  cases c with
  | inl a => exact (Array.getElem?_eq_some_iff.mp h.2).1
  | inr o => exact va_at.lt (q := (q, .inr o)) (show va_at G.1 vwCl (q, .inr o) H from h)
theorem xat_kept {G : xG} {q : Nat} {c : xE} {H H1 : Heap} (h : xat G q c H) (e : H1[q]? = H[q]?) : xat G q c H1 := by
  cases c with
  | inl a => exact ⟨h.1, e.trans h.2⟩
  | inr o => exact va_at.kept (q := (q, .inr o)) (show va_at G.1 vwCl (q, .inr o) H from h) e
def xRep (G : xG) (S : xS) (H : Heap) : Prop := S.2.1 = H.size ∧ G.2.2.1 ≤ H.size ∧ (∀ q c, S.1 q = some c → xcn c = false → G.2.2.1 ≤ q ∧ xat G q c H) ∧ (∀ q, q < G.2.2.1 → H[q]? = G.2.2.2.1[q]?) ∧ (∀ i c, xkc (G.2.2.2.2 83) i = some c → S.1 (G.2.2.2.2 i) = some c ∧ G.2.2.2.2 i < G.2.2.1) ∧ ∀ q c, S.1 q = some c → xcn c = true → ∃ i, xkc (G.2.2.2.2 83) i = some c ∧ G.2.2.2.2 i = q
abbrev xA (G : xG) : Nat → Prop := fun q => G.2.2.1 ≤ q
/-- what the tables and the old heap say of the constants -/
def xZ (G : xG) (U : State) : Prop :=
  (∀ i, i < 34 → vk_R (xsO i) (xsK i) (xsT i) (G.2.2.2.2 i) U) ∧
  (∀ i, i < 34 → va_O "java/lang/String" (G.2.2.2.2 i) (xA G) U G.2.2.2.1 ∧ va_OF "java/lang/String" "coder" "B" (.int 0) (G.2.2.2.2 i) (xA G) U G.2.2.2.1 ∧ va_OF "java/lang/String" "value" "[B" (.ref (G.2.2.2.2 (40 + i))) (G.2.2.2.2 i) (xA G) U G.2.2.2.1 ∧ va_T .byte (G.2.2.2.2 (40 + i)) (xsB i).length (fun j => .int ((xsB i).getD j 0)) (xA G) U G.2.2.2.1) ∧
  va_Z "java/lang/String" "COMPACT_STRINGS" "Z" (.int 1) (xA G) U G.2.2.2.1 ∧
  va_Zq "jdk/internal/util/Preconditions" "SIOOBE_FORMATTER" "Ljava/util/function/BiFunction;" (xA G) U G.2.2.2.1 ∧
  va_Z "IntervalTape$Writer" "TENS" "[J" (.ref (G.2.2.2.2 80)) (xA G) U G.2.2.2.1 ∧ va_T .long (G.2.2.2.2 80) 19 (fun j => .long (xten.getD j 0)) (xA G) U G.2.2.2.1 ∧
  va_Z "java/util/ArrayList" "DEFAULTCAPACITY_EMPTY_ELEMENTDATA" "[Ljava/lang/Object;" (.ref (G.2.2.2.2 81)) (xA G) U G.2.2.2.1 ∧ va_T (.object "java/lang/Object") (G.2.2.2.2 81) 0 (fun _ => .null) (xA G) U G.2.2.2.1 ∧
  va_Mi "[Ljava/lang/Object;" (G.2.2.2.2 83) U ∧ va_Dc U ∧ va_AO "java/lang/Object" U ∧ va_Nw (.castable "IntervalTape$Cell" "java/lang/Object") U ∧ va_Nw (.castable "IntervalTape$Cell" "IntervalTape$Cell") U ∧ va_Nw (.castable "[B" "java/lang/Cloneable") U
theorem xZ.mv {G : xG} {s U : State} (ha : s.vm.Alike U.vm) (hk : ∀ own k tx a, vk_R own k tx a s → vk_R own k tx a U) (hc : ∀ C T, va_Nw (.castable C T) s → va_Nw (.castable C T) U) (h : xZ G s) : xZ G U := by
  obtain ⟨h1, h2, h3, h4, h5, h6, h7, h8, h9, h10, h11, h12, h13, h14⟩ := h
  exact ⟨fun i hi => hk _ _ _ _ (h1 i hi), fun i hi => ⟨(h2 i hi).1.moved ha, (h2 i hi).2.1.moved ha, (h2 i hi).2.2.1.moved ha, (h2 i hi).2.2.2.moved ha⟩, h3.moved ha, h4.moved ha, h5.moved ha, h6.moved ha, h7.moved ha, h8.moved ha, h9.moved ha, h10.moved ha, h11.moved ha, hc _ _ h12, hc _ _ h13, hc _ _ h14⟩
def xI (G : xG) (U : State) : Prop := va_K G.1 vwCl (xtys G) U ∧ (∀ w ∈ xnw, va_Nw w U) ∧ xZ G U
theorem xI.warm {G : xG} {s U : State} (hW : s.WarmedH U.vm) (h : xI G s) : xI G U := ⟨va_K.moved hW.alike h.1, fun w hw => xnw_warm hW hw (h.2.1 w hw), h.2.2.mv hW.alike (fun _ _ _ _ q => q.warm hW) (fun _ _ q => va_Nw.warmC hW q)⟩
def xQc (G : xG) (Q : xQ) : Array Value → State → Outcome → State → Prop := fun _ st o t => (∃ (r : Option Value) (S : xS), o = .returned r ∧ xRep G S t.heap ∧ Q r S) ∧ va_F (xA G) st t
def xCx (G : xG) (M : xMd) (X : Array Value → State → Prop) (p : Program) (s : State) (m : MethodId) (args : Array Value) (meth : Method) (c : Code) : Prop :=
  p.tables.exec = Jvm.exec ∧ c.code = M.1 ∧ c.maxLocals = M.2.2.1 ∧ s.vm.findClass M.2.1 = some m.cls ∧ (∀ w ∈ xws, w.before args s = true) ∧ meth.sig.returnType = M.2.2.2.1 ∧ meth.locks = false ∧ (M.2.2.2.2.1 = true → meth.name = "<init>") ∧ xI G s ∧ X args s ∧ G.2.2.1 ≤ s.heap.size
abbrev xP : Type := List Frame → Array Value → State → State → Prop
def xW (G : xG) (l : Launch) (M : xMd) (X : Array Value → State → Prop) (P : xP) (pc : Nat) (K : xK) : Prop :=
  ∀ (p : Program) (e : Env) (s : State) (m : MethodId) (args : Array Value) (below : List Frame) (meth : Method) (c : Code), xCx G M X p s m args meth c →
  ∀ (lv : List (Nat × Value)) (st : List Value) (S : xS) (H : Heap) (locs : List Loc) (cells slots : Nat) (ls : Array Slot), K lv st S → lv_has ls M.2.2.1 lv → xRep G S H → va_S (xA G) s.heap H locs →
  cells + S.2.2.1 ≤ M.2.2.2.2.2.cells → slots + S.2.2.2 ≤ M.2.2.2.2.2.slots → W p l e M.2.2.2.2.2 s m args below meth c H locs cells slots (P below args s) (F0 m pc ls st)
/-- the method keeps the contract C -/
def xM (G : xG) (l : Launch) (y : MethodName) (cc : ByteArray) (nL : Nat) (ret : Option FieldType) (R : Room) (C : xC) : Prop :=
  ∀ (av : List Value) (S : xS) (Q : xQ), C av S Q → S.2.2.1 = R.cells → S.2.2.2 = R.slots → Met l y (Cond.code y cc nL ret :: xws) R (va_Pc av (fun U => xRep G S U.heap ∧ xI G U)) (xQc G Q) R.cells R.slots (xA G)
abbrev xPm (G : xG) (Q : xQ) (R : Room) : xP := fun below args s => MQ below (xQc G Q) args s R.cells R.slots (xA G)
abbrev xX0 : Array Value → State → Prop := fun _ _ => True
/-- a method's contract out of its entry block -/
theorem xM_of {G : xG} {l : Launch} {y : MethodName} {cc : ByteArray} {nL : Nat} {ret : Option FieldType} {R : Room} {C : xC} (E : xQ → xK) (own : String) (ini : Bool) (hE : ∀ Q, xW G l (cc, own, nL, ret, ini, R) xX0 (xPm G Q R) 0 (E Q))
    (hy : plainName y.cls = true) (ho : y.cls = own) (hi : ini = true → y.name = "<init>") (hC : ∀ av S Q, C av S Q → (lg_sl av).length ≤ nL ∧ E Q (lv_args 0 av) [] S) : xM G l y cc nL ret R C := by
  intro av S Q hc hb1 hb2
  obtain ⟨hn, hK⟩ := hC av S Q hc
  refine Met.ofW (cc := cc) (maxL := nL) (ret := ret) hy rfl ?_
  intro p e s m args below meth c s₁ B hml hv
  obtain ⟨rfl, hR, hI⟩ := hv
  have hts := atoms_spec (ws := Cond.code y cc nL ret :: xws) B.pre
  have hown : s.vm.findClass own = some m.cls := by rw [← ho]; exact findClass_of_methodNamed B.named
  have hl := lv_entry av (n := nL) hn
  rw [lg_entry_eq]
  exact hE Q p e s m av.toArray below meth c ⟨B.exec, B.bytes, hml, hown, fun w hw => hts w (List.mem_cons_of_mem _ hw), B.returns, B.notSynchronized, fun h => by rw [← hi h]; exact (name_of_methodNamed B.named B.method).1, hI, trivial, hR.1 ▸ hR.1 ▸ hR.2.1⟩ _ [] S s.heap [] 0 0 _ hK hl hR va_S.rf (by rw [hb1]; exact Nat.le_of_eq (Nat.zero_add _)) (by rw [hb2]; exact Nat.le_of_eq (Nat.zero_add _))
/-- fewer states -/
theorem xW.weak {G : xG} {l : Launch} {M : xMd} {X : Array Value → State → Prop} {P : xP} {pc : Nat} {K K' : xK} (h : xW G l M X P pc K) (hk : ∀ lv st S, K' lv st S → K lv st S) : xW G l M X P pc K' :=
  fun p e s m args below meth c C lv st S H locs cells slots ls hK => h p e s m args below meth c C lv st S H locs cells slots ls (hk lv st S hK)
/-- a loop: an invariant with a measure -/
theorem xW.loop {G : xG} {l : Launch} {M : xMd} {X : Array Value → State → Prop} {P : xP} {pc : Nat} (body : xK → xK) (I : Nat → xK) (hb : ∀ K, xW G l M X P pc K → xW G l M X P pc (body K))
    (h : ∀ n lv st S, I n lv st S → body (fun lv st S => ∃ k, k < n ∧ I k lv st S) lv st S) : xW G l M X P pc (fun lv st S => ∃ n, I n lv st S) := by
  have key : ∀ n : Nat, xW G l M X P pc (I n) := by
    intro n
    induction n using Nat.strongRecOn with
    | _ n ih =>
      refine xW.weak (hb (fun lv st S => ∃ k, k < n ∧ I k lv st S) ?_) (h n)
      intro p e s m args below meth c C lv st S H locs cells slots ls hK
      obtain ⟨k, hk, hI⟩ := hK
      exact ih k hk p e s m args below meth c C lv st S H locs cells slots ls hI
  intro p e s m args below meth c C lv st S H locs cells slots ls hK
  obtain ⟨n, hI⟩ := hK
  exact key n p e s m args below meth c C lv st S H locs cells slots ls hI
