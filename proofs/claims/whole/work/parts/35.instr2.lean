/-! more instructions: null tests, references compared, switches, casts, constants of the old heap -/
section XJ
variable {G : xG} {l : Launch} {M : xMd} {X : Array Value → State → Prop} {P : xP} {pc : Nat} {k kt kf : xK}
def x_no : xK := fun _ _ _ => False
theorem xo_no : xW G l M X P pc x_no := fun _ _ _ _ _ _ _ _ _ _ _ _ _ _ _ _ _ hK => hK.elim
def x_ifnull (kt kf : xK) : xK := fun lv st S => match st with
  | .ref _ :: r => kf lv r S
  | .null :: r => kt lv r S
  | _ => False
def x_ifnonnull (kt kf : xK) : xK := fun lv st S => match st with
  | .ref _ :: r => kt lv r S
  | .null :: r => kf lv r S
  | _ => False
theorem xo_ifnull {off : Int} {tgt : Nat} (hd : decode M.1 pc = .ok (.ifnull off, 3)) (hT : (pc : Int) + off = (tgt : Int)) (ht : xW G l M X P tgt kt) (hf : xW G l M X P (pc + 3) kf) : xW G l M X P pc (x_ifnull kt kf) := by
  intro p e s m args below meth c C lv st S H locs cells slots ls hK hl hR hS hc hs
  unfold x_ifnull at hK
  split at hK
  · exact lv_ifnull C.1 C.2.1 hd (hf p e s m args below meth c C _ _ S H locs cells slots ls hK hl hR hS hc hs)
  · exact lv_ifnullN C.1 C.2.1 hd hT (ht p e s m args below meth c C _ _ S H locs cells slots ls hK hl hR hS hc hs)
  · exact hK.elim
theorem xo_ifnonnull {off : Int} {tgt : Nat} (hd : decode M.1 pc = .ok (.ifnonnull off, 3)) (hT : (pc : Int) + off = (tgt : Int)) (ht : xW G l M X P tgt kt) (hf : xW G l M X P (pc + 3) kf) : xW G l M X P pc (x_ifnonnull kt kf) := by
  intro p e s m args below meth c C lv st S H locs cells slots ls hK hl hR hS hc hs
  unfold x_ifnonnull at hK
  split at hK
  · exact lv_ifnonnull C.1 C.2.1 hd hT (ht p e s m args below meth c C _ _ S H locs cells slots ls hK hl hR hS hc hs)
  · exact lv_ifnonnullN C.1 C.2.1 hd (hf p e s m args below meth c C _ _ S H locs cells slots ls hK hl hR hS hc hs)
  · exact hK.elim
def x_acmp_eq (kt kf : xK) : xK := fun lv st S => match st with
  | .ref b :: .ref a :: r => (a = b → kt lv r S) ∧ (¬ a = b → kf lv r S)
  | _ => False
def x_acmp_ne (kt kf : xK) : xK := fun lv st S => match st with
  | .ref b :: .ref a :: r => (¬ a = b → kt lv r S) ∧ (a = b → kf lv r S)
  | _ => False
theorem xo_acmp_eq {off : Int} {tgt : Nat} (hd : decode M.1 pc = .ok (.if_acmp .eq off, 3)) (hT : (pc : Int) + off = (tgt : Int)) (ht : xW G l M X P tgt kt) (hf : xW G l M X P (pc + 3) kf) : xW G l M X P pc (x_acmp_eq kt kf) := by
  intro p e s m args below meth c C lv st S H locs cells slots ls hK hl hR hS hc hs
  unfold x_acmp_eq at hK
  split at hK
  · rename_i b a r
    exact lv_acmp_eq (rx := some a) (ry := some b) C.1 C.2.1 hd hT (fun q => ht p e s m args below meth c C _ _ S H locs cells slots ls (hK.1 (Option.some.inj q)) hl hR hS hc hs) (fun q => hf p e s m args below meth c C _ _ S H locs cells slots ls (hK.2 (fun z => q (congrArg some z))) hl hR hS hc hs)
  · exact hK.elim
theorem xo_acmp_ne {off : Int} {tgt : Nat} (hd : decode M.1 pc = .ok (.if_acmp .ne off, 3)) (hT : (pc : Int) + off = (tgt : Int)) (ht : xW G l M X P tgt kt) (hf : xW G l M X P (pc + 3) kf) : xW G l M X P pc (x_acmp_ne kt kf) := by
  intro p e s m args below meth c C lv st S H locs cells slots ls hK hl hR hS hc hs
  unfold x_acmp_ne at hK
  split at hK
  · rename_i b a r
    exact lv_acmp_ne (rx := some a) (ry := some b) C.1 C.2.1 hd hT (fun q => ht p e s m args below meth c C _ _ S H locs cells slots ls (hK.1 (fun z => q (congrArg some z))) hl hR hS hc hs) (fun q => hf p e s m args below meth c C _ _ S H locs cells slots ls (hK.2 (Option.some.inj q)) hl hR hS hc hs)
  · exact hK.elim
/-- the branches of a switch, from the number i on -/
def x_swl : List xK → Int → Int32 → List (Nat × Value) → List Value → xS → Prop
  | [], _, _, _, _, _ => True
  | k :: ks, i, x, lv, r, S => (x.toInt = i → k lv r S) ∧ x_swl ks (i + 1) x lv r S
def x_tsw (lo hi : Int) (ks : List xK) (kd : xK) : xK := fun lv st S => match st with
  | .int x :: r => x_swl ks lo x lv r S ∧ (x.toInt < lo ∨ hi < x.toInt → kd lv r S)
  | _ => False
theorem x_swl_at {ks : List xK} {i : Int} {x : Int32} {lv : List (Nat × Value)} {r : List Value} {S : xS} (h : x_swl ks i x lv r S) {j : Nat} {k : xK} (e : ks[j]? = some k) (hx : x.toInt = i + j) : k lv r S := by
  induction ks generalizing i j with
  | nil => cases e
  | cons k0 ks ih =>
    cases j with
    | zero => cases e; exact h.1 (by omega)
    | succ j => exact ih h.2 e (by omega)
/-- every branch is sound -/
def xtsw (G : xG) (l : Launch) (M : xMd) (X : Array Value → State → Prop) (P : xP) (pc : Nat) : List xK → List Int → Prop
  | [], [] => True
  | k :: ks, o :: os => (∃ t : Nat, (pc : Int) + o = (t : Int) ∧ xW G l M X P t k) ∧ xtsw G l M X P pc ks os
  | _, _ => False
theorem xtsw_n : xtsw G l M X P pc [] [] := trivial
theorem xtsw_c {k : xK} {ks : List xK} {o : Int} {os : List Int} {t : Nat} (h1 : (pc : Int) + o = (t : Int)) (h2 : xW G l M X P t k) (h3 : xtsw G l M X P pc ks os) : xtsw G l M X P pc (k :: ks) (o :: os) := ⟨⟨t, h1, h2⟩, h3⟩
theorem xtsw_at {ks : List xK} {os : List Int} (h : xtsw G l M X P pc ks os) {j : Nat} (hj : j < ks.length) : ∃ k o t, ks[j]? = some k ∧ os[j]? = some o ∧ (pc : Int) + o = ((t : Nat) : Int) ∧ xW G l M X P t k := by
  induction ks generalizing os j with
  | nil => exact absurd hj (Nat.not_lt_zero _)
  | cons k ks ih =>
    cases os with
    | nil => exact h.elim
    | cons o os =>
      obtain ⟨⟨t, h1, h2⟩, h3⟩ := h
      cases j with
      | zero => exact ⟨_, _, t, rfl, rfl, h1, h2⟩
      | succ j => exact ih h3 (by simpa using hj)
theorem xo_tsw {dflt lo hi : Int} {os : List Int} {len tgt : Nat} {ks : List xK} {kd : xK} (hd : decode M.1 pc = .ok (.tableswitch dflt lo hi os.toArray, len)) (hT : (pc : Int) + dflt = (tgt : Int)) (hn : lo + ks.length = hi + 1) (hD : xW G l M X P tgt kd) (hk : xtsw G l M X P pc ks os) : xW G l M X P pc (x_tsw lo hi ks kd) := by
  intro p e s m args below meth c C lv st S H locs cells slots ls hK hl hR hS hc hs
  unfold x_tsw at hK
  split at hK
  · rename_i x r
    by_cases q : x.toInt < lo ∨ hi < x.toInt
    · exact lv_tableOut C.1 C.2.1 hd q hT (hD p e s m args below meth c C _ _ S H locs cells slots ls (hK.2 q) hl hR hS hc hs)
    · have q1 : ¬ x.toInt < lo := fun z => q (Or.inl z)
      have q2 : ¬ hi < x.toInt := fun z => q (Or.inr z)
      obtain ⟨k, o, t, g1, g2, g3, g4⟩ := xtsw_at hk (j := (x.toInt - lo).toNat) (by omega)
      exact lv_tableIn C.1 C.2.1 hd q1 q2 (by rw [List.getElem?_toArray]; exact g2) g3 (g4 p e s m args below meth c C _ _ S H locs cells slots ls (x_swl_at hK.1 g1 (by omega)) hl hR hS hc hs)
  · exact hK.elim
/-- a cast of a Cell -/
def x_castC (k : xK) : xK := fun lv st S => match st with
  | .ref a :: r => (match S.1 a with
    | some (.inr (ci, _)) => ci = 2 ∧ k lv (.ref a :: r) S
    | _ => False)
  | _ => False
theorem xo_castC {index : Nat} (hd : decode M.1 pc = .ok (.checkcast index, 3)) (hlk : Cond.classLink M.2.1 index "IntervalTape$Cell" ∈ xws) (h : xW G l M X P (pc + 3) k) : xW G l M X P pc (x_castC k) := by
  intro p e s m args below meth c C lv st S H locs cells slots ls hK hl hR hS hc hs
  unfold x_castC at hK
  split at hK
  · split at hK
    · rename_i a r _ ci fs ea
      obtain ⟨rfl, hK⟩ := hK
      obtain ⟨z1, z2, z3, z4, z5, z6, z7, z8, z9, z10, z11, z12, z13, z14⟩ := C.2.2.2.2.2.2.2.2.1.2.2
      obtain ⟨rr, g1, cell, q1, q2, q3, -⟩ := (hR.2.2.1 a _ ea rfl).2
      exact va_castY C.1 C.2.1 C.2.2.2.1 (C.2.2.2.2.1 _ hlk) z13 ⟨cell, q1, by rw [q3]; rfl, by rw [q2]; exact (C.2.2.2.2.2.2.2.2.1.1.1 2 _ rfl).2.1⟩ hd (h p e s m args below meth c C _ _ S H locs cells slots ls hK hl hR hS hc hs)
    · exact hK.elim
  · exact hK.elim
/-- the reference of a constant of the old heap -/
def x_kst (q : xE) (k : xK) : xK := fun lv st S => ∀ a, S.1 a = some q → (∀ b, S.1 b = some q → b = a) → k lv (.ref a :: st) S
def xkT : xE := .inl (4, 19, .inr (.inl (fun j => xten.getD j 0)))
def xkE : xE := .inl (6, 0, .inr (.inr (.inr (.inr (fun _ => none)))))
def xkM (mi : Nat) : xE := .inl (9, 0, .inr (.inr (.inr (.inr (fun _ => some mi)))))
theorem xkc_T {mi : Nat} : xkc mi 80 = some xkT := rfl
theorem xkc_E {mi : Nat} : xkc mi 81 = some xkE := rfl
theorem xkc_M {mi : Nat} : xkc mi 82 = some (xkM mi) := rfl
theorem xku {S : xS} {H : Heap} {i t n : Nat} {d : (Nat → Int32) ⊕ (Nat → Int64) ⊕ (Nat → UInt32) ⊕ (Nat → UInt64) ⊕ (Nat → Option Nat)} (hR : xRep G S H) (ht : Nat.ble 4 t = true) (h1 : ∀ j, xkc (G.2.2.2.2 83) j = some (.inl (t, n, d)) → j = i) : ∀ b, S.1 b = some (.inl (t, n, d)) → b = G.2.2.2.2 i := by
  intro b hb
  obtain ⟨j, g1, g2⟩ := hR.2.2.2.2.2 b _ hb ht
  rw [← g2, h1 j g1]
theorem xo_kT {index : Nat} (hd : decode M.1 pc = .ok (.getstatic index, 3)) (hlk : Cond.fieldLink M.2.1 index "IntervalTape$Writer" "TENS" "[J" ∈ xws) (h : xW G l M X P (pc + 3) k) : xW G l M X P pc (x_kst xkT k) := by
  intro p e s m args below meth c C lv st S H locs cells slots ls hK hl hR hS hc hs
  obtain ⟨z1, z2, z3, z4, z5, z6, z7, z8, z9, z10, z11, z12, z13, z14⟩ := C.2.2.2.2.2.2.2.2.1.2.2
  have hk := xkept hR hS C.2.2.2.2.2.2.2.2.2.2
  refine va_gets C.1 C.2.1 (z5.kept hk) hS C.2.2.2.1 (C.2.2.2.2.1 _ hlk) (fun _ q => q) hd (h p e s m args below meth c C _ _ S H locs cells slots ls (hK _ (hR.2.2.2.2.1 80 _ xkc_T).1 (xku hR rfl ?_)) hl hR hS hc hs)
  intro j hj
  rcases xkc_inv hj with ⟨q, -⟩ | ⟨q, -⟩ | ⟨-, q, -⟩ | ⟨q, -⟩ | ⟨q, -⟩ <;> omega
theorem xo_kE {index : Nat} (hd : decode M.1 pc = .ok (.getstatic index, 3)) (hlk : Cond.fieldLink M.2.1 index "java/util/ArrayList" "DEFAULTCAPACITY_EMPTY_ELEMENTDATA" "[Ljava/lang/Object;" ∈ xws) (h : xW G l M X P (pc + 3) k) : xW G l M X P pc (x_kst xkE k) := by
  intro p e s m args below meth c C lv st S H locs cells slots ls hK hl hR hS hc hs
  obtain ⟨z1, z2, z3, z4, z5, z6, z7, z8, z9, z10, z11, z12, z13, z14⟩ := C.2.2.2.2.2.2.2.2.1.2.2
  have hk := xkept hR hS C.2.2.2.2.2.2.2.2.2.2
  refine va_gets C.1 C.2.1 (z7.kept hk) hS C.2.2.2.1 (C.2.2.2.2.1 _ hlk) (fun _ q => q) hd (h p e s m args below meth c C _ _ S H locs cells slots ls (hK _ (hR.2.2.2.2.1 81 _ xkc_E).1 (xku hR rfl ?_)) hl hR hS hc hs)
  intro j hj
  rcases xkc_inv hj with ⟨q, -⟩ | ⟨q, -⟩ | ⟨q, -⟩ | ⟨-, q, -⟩ | ⟨q, -⟩ <;> omega
theorem xku9 {S : xS} {H : Heap} (hR : xRep G S H) : ∀ q m, S.1 q = some (xkM m) → m = G.2.2.2.2 83 := by
  intro q m hq
  obtain ⟨j, g1, g2⟩ := hR.2.2.2.2.2 q _ hq rfl
  rcases xkc_inv g1 with ⟨e, -⟩ | ⟨e, -⟩ | ⟨e, -⟩ | ⟨e, -⟩ | ⟨-, -, e⟩
  · cases e
  · cases e
  · cases e
  · cases e
  · exact Option.some.inj (congrFun (Sum.inr.inj (Sum.inr.inj (Sum.inr.inj (Sum.inr.inj e)))) 0)
/-- a Class object -/
def x_kM (k : xK) : xK := fun lv st S => ∀ mi, (∃ q, S.1 q = some (xkM mi)) → (∀ q m, S.1 q = some (xkM m) → m = mi) → k lv (.ref mi :: st) S
theorem xo_kM {index : Nat} (hd : decode M.1 pc = .ok (.ldc index, 2)) (hlk : Cond.classLink M.2.1 index "[Ljava/lang/Object;" ∈ xws) (h : xW G l M X P (pc + 2) k) : xW G l M X P pc (x_kM k) := by
  intro p e s m args below meth c C lv st S H locs cells slots ls hK hl hR hS hc hs
  obtain ⟨z1, z2, z3, z4, z5, z6, z7, z8, z9, z10, z11, z12, z13, z14⟩ := C.2.2.2.2.2.2.2.2.1.2.2
  exact va_ldcM C.1 C.2.1 C.2.2.2.1 (C.2.2.2.2.1 _ hlk) z9 hd (h p e s m args below meth c C _ _ S H locs cells slots ls (hK _ ⟨_, (hR.2.2.2.2.1 82 _ xkc_M).1⟩ (xku9 hR)) hl hR hS hc hs)
/-- an element of the static array of longs -/
def x_klald (k : xK) : xK := fun lv st S => match st with
  | .int i :: .ref a :: r => S.1 a = some xkT ∧ vp_in i 19 ∧ k lv (.long (xten.getD i.toNatClampNeg 0) :: r) S
  | _ => False
theorem xo_klald (hd : decode M.1 pc = .ok (.laload, 1)) (h : xW G l M X P (pc + 1) k) : xW G l M X P pc (x_klald k) := by
  intro p e s m args below meth c C lv st S H locs cells slots ls hK hl hR hS hc hs
  unfold x_klald at hK
  split at hK
  · rename_i i a r
    obtain ⟨ea, hi, hK⟩ := hK
    obtain ⟨z1, z2, z3, z4, z5, z6, z7, z8, z9, z10, z11, z12, z13, z14⟩ := C.2.2.2.2.2.2.2.2.1.2.2
    have hk := xkept hR hS C.2.2.2.2.2.2.2.2.2.2
    obtain ⟨j, g1, rfl⟩ := hR.2.2.2.2.2 a _ ea rfl
    have hj : j = 80 := by rcases xkc_inv g1 with ⟨q, -⟩ | ⟨q, -⟩ | ⟨-, q, -⟩ | ⟨q, -⟩ | ⟨q, -⟩ <;> omega
    subst hj
    exact va_tl C.1 C.2.1 (z6.kept hk) hS hi rfl hd (h p e s m args below meth c C _ _ S H locs cells slots ls hK hl hR hS hc hs)
  · exact hK.elim
end XJ
theorem nr_z0 : narrow .boolean (.int 0) = .int 0 := rfl
theorem nr_z1 : narrow .boolean (.int 1) = .int 1 := rfl
theorem ft_z0 : fits .boolean (.int 0) = true := rfl
theorem ft_z1 : fits .boolean (.int 1) = true := rfl
theorem nr_on {n : String} : narrow (.object n) .null = .null := rfl
theorem nr_an {t : FieldType} : narrow (.array t) .null = .null := rfl
theorem ft_on {n : String} : fits (.object n) .null = true := rfl
theorem ft_an {t : FieldType} : fits (.array t) .null = true := rfl
