/-! Strings: length and charAt -/
section XST2
variable {G : xG} {l : Launch} {M : xMd} {X : Array Value → State → Prop} {P : xP} {pc : Nat} {k : xK}
theorem xkc_s5 {mi i n : Nat} {f : Nat → Int32} (h : xkc mi i = some (.inl (5, n, .inl f))) : i < 34 ∧ n = (xsB i).length ∧ f = fun j => (xsB i).getD j 0 := by
  rcases xkc_inv h with ⟨-, a, b, c⟩ | ⟨q, -⟩ | ⟨q, -⟩ | ⟨q, -⟩ | ⟨q, -⟩
  · exact ⟨a, b, by cases c; rfl⟩
  all_goals omega
theorem xkc_s7 {mi i n : Nat} {f : Nat → Int32} (h : xkc mi i = some (.inl (7, n, .inl f))) : ∃ j, j < 34 ∧ i = 40 + j ∧ n = (xsB j).length ∧ f = fun x => (xsB j).getD x 0 := by
  rcases xkc_inv h with ⟨q, -⟩ | ⟨-, j, a, b, c, d⟩ | ⟨q, -⟩ | ⟨q, -⟩ | ⟨q, -⟩
  · omega
  · exact ⟨j, a, b, c, by cases d; rfl⟩
  all_goals omega
/-- COMPACT_STRINGS -/
theorem xo_kZ {index : Nat} (hd : decode M.1 pc = .ok (.getstatic index, 3)) (hlk : Cond.fieldLink M.2.1 index "java/lang/String" "COMPACT_STRINGS" "Z" ∈ xws) (h : xW G l M X P (pc + 3) k) : xW G l M X P pc (x_c (.int 1) k) := by
  intro p e s m args below meth c C lv st S H locs cells slots ls hK hl hR hS hc hs
  obtain ⟨z1, z2, z3, z4, z5, z6, z7, z8, z9, z10, z11, z12, z13, z14⟩ := C.2.2.2.2.2.2.2.2.1.2.2
  have hk := xkept hR hS C.2.2.2.2.2.2.2.2.2.2
  exact va_gets C.1 C.2.1 (z3.kept hk) hS C.2.2.2.1 (C.2.2.2.2.1 _ hlk) (fun _ q => q) hd (h p e s m args below meth c C _ _ S H locs cells slots ls hK hl hR hS hc hs)
/-- the coder of a String constant -/
def x_scod (k : xK) : xK := fun lv st S => match st with
  | .ref a :: r => (∃ n f, S.1 a = some (.inl (5, n, .inl f))) ∧ k lv (.int 0 :: r) S
  | _ => False
theorem xo_scod {index : Nat} (hd : decode M.1 pc = .ok (.getfield index, 3)) (hlk : Cond.fieldLink M.2.1 index "java/lang/String" "coder" "B" ∈ xws) (h : xW G l M X P (pc + 3) k) : xW G l M X P pc (x_scod k) := by
  intro p e s m args below meth c C lv st S H locs cells slots ls hK hl hR hS hc hs
  unfold x_scod at hK
  split at hK
  · rename_i a r
    obtain ⟨⟨n, f, ea⟩, hK⟩ := hK
    obtain ⟨z1, z2, z3, z4, z5, z6, z7, z8, z9, z10, z11, z12, z13, z14⟩ := C.2.2.2.2.2.2.2.2.1.2.2
    have hk := xkept hR hS C.2.2.2.2.2.2.2.2.2.2
    obtain ⟨j, g1, rfl⟩ := hR.2.2.2.2.2 a _ ea rfl
    obtain ⟨hj, -, -⟩ := xkc_s5 g1
    exact vk_getf C.1 C.2.1 ((z2 j hj).2.1.kept hk) hS C.2.2.2.1 (C.2.2.2.2.1 _ hlk) (fun _ q => q) hd (h p e s m args below meth c C _ _ S H locs cells slots ls hK hl hR hS hc hs)
  · exact hK.elim
/-- the bytes of a String constant -/
def x_sval (k : xK) : xK := fun lv st S => match st with
  | .ref a :: r => ∃ n f, S.1 a = some (.inl (5, n, .inl f)) ∧ ∀ b, S.1 b = some (.inl (7, n, .inl f)) → k lv (.ref b :: r) S
  | _ => False
theorem xo_sval {index : Nat} (hd : decode M.1 pc = .ok (.getfield index, 3)) (hlk : Cond.fieldLink M.2.1 index "java/lang/String" "value" "[B" ∈ xws) (h : xW G l M X P (pc + 3) k) : xW G l M X P pc (x_sval k) := by
  intro p e s m args below meth c C lv st S H locs cells slots ls hK hl hR hS hc hs
  unfold x_sval at hK
  split at hK
  · rename_i a r
    obtain ⟨n, f, ea, hK⟩ := hK
    obtain ⟨z1, z2, z3, z4, z5, z6, z7, z8, z9, z10, z11, z12, z13, z14⟩ := C.2.2.2.2.2.2.2.2.1.2.2
    have hk := xkept hR hS C.2.2.2.2.2.2.2.2.2.2
    obtain ⟨j, g1, rfl⟩ := hR.2.2.2.2.2 a _ ea rfl
    obtain ⟨hj, rfl, rfl⟩ := xkc_s5 g1
    have g2 : xkc (G.2.2.2.2 83) (40 + j) = some (.inl (7, (xsB j).length, .inl (fun x => (xsB j).getD x 0))) := by
      unfold xkc
      rw [if_neg (by omega), if_pos (by omega), show 40 + j - 40 = j by omega]
    exact vk_getf C.1 C.2.1 ((z2 j hj).2.2.1.kept hk) hS C.2.2.2.1 (C.2.2.2.2.1 _ hlk) (fun _ q => q) hd (h p e s m args below meth c C _ _ S H locs cells slots ls (hK _ (hR.2.2.2.2.1 _ _ g2).1) hl hR hS hc hs)
  · exact hK.elim
/-- a byte of a String constant -/
def x_kbald (k : xK) : xK := fun lv st S => match st with
  | .int i :: .ref a :: r => ∃ n f, S.1 a = some (.inl (7, n, .inl f)) ∧ vp_in i n ∧ k lv (.int (f i.toNatClampNeg) :: r) S
  | _ => False
theorem xo_kbald (hd : decode M.1 pc = .ok (.baload, 1)) (h : xW G l M X P (pc + 1) k) : xW G l M X P pc (x_kbald k) := by
  intro p e s m args below meth c C lv st S H locs cells slots ls hK hl hR hS hc hs
  unfold x_kbald at hK
  split at hK
  · rename_i i a r
    obtain ⟨n, f, ea, hi, hK⟩ := hK
    obtain ⟨z1, z2, z3, z4, z5, z6, z7, z8, z9, z10, z11, z12, z13, z14⟩ := C.2.2.2.2.2.2.2.2.1.2.2
    have hk := xkept hR hS C.2.2.2.2.2.2.2.2.2.2
    obtain ⟨j, g1, rfl⟩ := hR.2.2.2.2.2 a _ ea rfl
    obtain ⟨j', hj, rfl, rfl, rfl⟩ := xkc_s7 g1
    exact va_tb C.1 C.2.1 ((z2 j' hj).2.2.2.kept hk) hS hi rfl hd (h p e s m args below meth c C _ _ S H locs cells slots ls hK hl hR hS hc hs)
  · exact hK.elim
end XST2
/-- a static reference that nobody looks at -/
def x_kq (k : xK) : xK := fun lv st S => k lv (.null :: st) S ∧ ∀ t, k lv (.ref t :: st) S
section XST3
variable {G : xG} {l : Launch} {M : xMd} {X : Array Value → State → Prop} {P : xP} {pc : Nat} {k : xK}
theorem xo_kq {index : Nat} (hd : decode M.1 pc = .ok (.getstatic index, 3)) (hlk : Cond.fieldLink M.2.1 index "jdk/internal/util/Preconditions" "SIOOBE_FORMATTER" "Ljava/util/function/BiFunction;" ∈ xws) (h : xW G l M X P (pc + 3) k) : xW G l M X P pc (x_kq k) := by
  intro p e s m args below meth c C lv st S H locs cells slots ls hK hl hR hS hc hs
  obtain ⟨z1, z2, z3, z4, z5, z6, z7, z8, z9, z10, z11, z12, z13, z14⟩ := C.2.2.2.2.2.2.2.2.1.2.2
  have hk := xkept hR hS C.2.2.2.2.2.2.2.2.2.2
  rcases z4.kept hk with z | ⟨t, z⟩
  · exact va_gets C.1 C.2.1 z hS C.2.2.2.1 (C.2.2.2.2.1 _ hlk) (fun _ q => q) hd (h p e s m args below meth c C _ _ S H locs cells slots ls hK.1 hl hR hS hc hs)
  · exact va_gets C.1 C.2.1 z hS C.2.2.2.1 (C.2.2.2.2.1 _ hlk) (fun _ q => q) hd (h p e s m args below meth c C _ _ S H locs cells slots ls (hK.2 t) hl hR hS hc hs)
/-- a call whose receiver is a String constant -/
def x_callt (C : xC) (n mc ms : Nat) (k : xK) : xK := fun lv st S => (∃ b n' f, (st.take n).reverse.head? = some (.ref b) ∧ S.1 b = some (.inl (5, n', .inl f))) ∧ x_call C n mc ms k lv st S
theorem xo_callT {y : MethodName} {cc : ByteArray} {nL index np : Nat} {ret : Option FieldType} {R : Room} {C : xC} (hM : xM G l y cc nL ret R C) (hd : decode M.1 pc = .ok (.invokevirtual index, 3)) (hcode : Cond.code y cc nL ret ∈ xws) (hlk : Cond.methodLink M.2.1 index y ∈ xws) (hin : Cond.instanceMethod y ∈ xws) (hsel : Cond.selects "java/lang/String" y y ∈ xws) (hini : Cond.initialized y.cls ∈ xws)
    (hyd : y.cls ≠ "java/lang/invoke/MethodHandle" ∧ y.cls ≠ "java/lang/invoke/VarHandle" ∧ (parseMethodDescriptor y.desc).map (fun d => d.parameters.length) = some np) (hroom : R.frames + 1 ≤ M.2.2.2.2.2.frames ∧ 8 + (nL + 11) + R.locals ≤ M.2.2.2.2.2.locals)
    (h : xW G l M X P (pc + 3) k) : xW G l M X P pc (x_callt C (np + 1) R.cells R.slots k) := by
  intro p e s m args below meth c Cx lv st S H locs cells slots ls hK hl hR hS hc hs
  obtain ⟨⟨b, n', f, hb1, hb2⟩, h1, h2, h3, h4, hK⟩ := hK
  obtain ⟨hx, hb, hml, hown, hts, -, -, -, hI, -, -⟩ := id Cx
  obtain ⟨r1, r2, r3⟩ := xrecv h1 hb1
  obtain ⟨z1, z2, -⟩ := hI.2.2
  obtain ⟨j, g1, rfl⟩ := hR.2.2.2.2.2 b _ hb2 rfl
  obtain ⟨hj, -, -⟩ := xkc_s5 g1
  obtain ⟨cell, q1, q2, q3, -⟩ := (z2 j hj).1
  have q1' := (hR.2.2.2.1 _ (hR.2.2.2.2.1 j _ g1).2).trans q1
  rw [r1] at hK
  refine xcall_goes Cx hl hS hc hs h3 h4 h (va_runV (n := np) (C := "java/lang/String") (As := (st.take np).reverse) (b := G.2.2.2.2 j) ⟨hx, hb, hml, hown, hts⟩ (hM _ _ _ hK rfl rfl) ⟨callB_of np hts (xgood hcode) rfl rfl rfl (hts _ hini) (hts _ hlk) hyd hroom, hts _ hin, hts _ hsel⟩ ⟨xblind, ⟨cell, q1', q2, q3⟩, fun U hU hW => ⟨rfl, by rw [hU]; exact hR, hI.warm hW⟩⟩ rfl r3 hl.1 r2 (lv_room h2) hd ⟨by omega, by omega⟩)
end XST3
