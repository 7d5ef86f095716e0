def xlk : List (Nat × Value) → Nat → Option Value
  | [], _ => none
  | q :: l, i => if q.1 = i then some q.2 else xlk l i
theorem xlk_at {ls : Array Slot} {nL : Nat} {lv : List (Nat × Value)} (h : lv_has ls nL lv) {i : Nat} {v : Value} (e : xlk lv i = some v) : ls[i]? = some (.val v) := by
  have key : ∀ l : List (Nat × Value), xlk l i = some v → (i, v) ∈ l := by
    intro l
    induction l with
    | nil => intro h; cases h
    | cons q l ih =>
      intro h
      unfold xlk at h
      split at h
      · rename_i hq
        cases h
        rw [← hq]
        exact List.mem_cons_self
      · exact List.mem_cons_of_mem _ (ih h)
  exact h.2.2 (i, v) (key lv e)
def xs1 (lv : List (Nat × Value)) (i : Nat) (v : Value) : List (Nat × Value) := (i, v) :: lv.filter (fun q => !(q.1 == i) && !(q.1 + 1 == i && q.2.category == 2))
def xs2 (lv : List (Nat × Value)) (i : Nat) (v : Value) : List (Nat × Value) := (i, v) :: lv.filter (fun q => !(q.1 == i) && (!(q.1 == i + 1) && !(q.1 + 1 == i && q.2.category == 2)))
def x_c (v : Value) (k : xK) : xK := fun lv st S => k lv (v :: st) S
theorem xo_iconst {G : xG} {l : Launch} {M : xMd} {X : Array Value → State → Prop} {P : xP} {pc : Nat} {k : xK} {n : Int} {v : Int32} (hd : decode M.1 pc = .ok (.iconst n, 1)) (hv : Int32.ofInt n = v) (h : xW G l M X P (pc + 1) k) : xW G l M X P pc (x_c (.int v) k) := by
  intro p e s m args below meth c C lv st S H locs cells slots ls hK hl hR hS hc hs
  exact lv_iconst C.1 C.2.1 hd hv (h p e s m args below meth c C _ _ S H locs cells slots ls hK hl hR hS hc hs)
theorem xo_bipush {G : xG} {l : Launch} {M : xMd} {X : Array Value → State → Prop} {P : xP} {pc : Nat} {k : xK} {n : Int} {v : Int32} (hd : decode M.1 pc = .ok (.bipush n, 2)) (hv : (Int8.ofInt n).toInt32 = v) (h : xW G l M X P (pc + 2) k) : xW G l M X P pc (x_c (.int v) k) := by
  intro p e s m args below meth c C lv st S H locs cells slots ls hK hl hR hS hc hs
  exact lv_bipush C.1 C.2.1 hd hv (h p e s m args below meth c C _ _ S H locs cells slots ls hK hl hR hS hc hs)
theorem xo_sipush {G : xG} {l : Launch} {M : xMd} {X : Array Value → State → Prop} {P : xP} {pc : Nat} {k : xK} {n : Int} {v : Int32} (hd : decode M.1 pc = .ok (.sipush n, 3)) (hv : (Int16.ofInt n).toInt32 = v) (h : xW G l M X P (pc + 3) k) : xW G l M X P pc (x_c (.int v) k) := by
  intro p e s m args below meth c C lv st S H locs cells slots ls hK hl hR hS hc hs
  exact lv_sipush C.1 C.2.1 hd hv (h p e s m args below meth c C _ _ S H locs cells slots ls hK hl hR hS hc hs)
theorem xo_lconst {G : xG} {l : Launch} {M : xMd} {X : Array Value → State → Prop} {P : xP} {pc : Nat} {k : xK} {n : Fin 2} {v : Int64} (hd : decode M.1 pc = .ok (.lconst n, 1)) (hv : Int64.ofNat (n : Nat) = v) (h : xW G l M X P (pc + 1) k) : xW G l M X P pc (x_c (.long v) k) := by
  intro p e s m args below meth c C lv st S H locs cells slots ls hK hl hR hS hc hs
  exact lv_lconst C.1 C.2.1 hd hv (h p e s m args below meth c C _ _ S H locs cells slots ls hK hl hR hS hc hs)
theorem xo_null {G : xG} {l : Launch} {M : xMd} {X : Array Value → State → Prop} {P : xP} {pc : Nat} {k : xK} (hd : decode M.1 pc = .ok (.aconst_null, 1)) (h : xW G l M X P (pc + 1) k) : xW G l M X P pc (x_c .null k) := by
  intro p e s m args below meth c C lv st S H locs cells slots ls hK hl hR hS hc hs
  exact lv_null C.1 C.2.1 hd (h p e s m args below meth c C _ _ S H locs cells slots ls hK hl hR hS hc hs)
theorem xo_ldc {G : xG} {l : Launch} {M : xMd} {X : Array Value → State → Prop} {P : xP} {pc : Nat} {k : xK} {index : Nat} {v : Int32} (hd : decode M.1 pc = .ok (.ldc index, 2)) (hw : Cond.constant M.2.1 index v ∈ xws) (h : xW G l M X P (pc + 2) k) : xW G l M X P pc (x_c (.int v) k) := by
  intro p e s m args below meth c C lv st S H locs cells slots ls hK hl hR hS hc hs
  exact lv_ldc C.1 C.2.1 C.2.2.2.1 (C.2.2.2.2.1 _ hw) hd (h p e s m args below meth c C _ _ S H locs cells slots ls hK hl hR hS hc hs)
theorem xo_ldc_w {G : xG} {l : Launch} {M : xMd} {X : Array Value → State → Prop} {P : xP} {pc : Nat} {k : xK} {index : Nat} {v : Int32} (hd : decode M.1 pc = .ok (.ldc_w index, 3)) (hw : Cond.constant M.2.1 index v ∈ xws) (h : xW G l M X P (pc + 3) k) : xW G l M X P pc (x_c (.int v) k) := by
  intro p e s m args below meth c C lv st S H locs cells slots ls hK hl hR hS hc hs
  exact lv_ldcw C.1 C.2.1 C.2.2.2.1 (C.2.2.2.2.1 _ hw) hd (h p e s m args below meth c C _ _ S H locs cells slots ls hK hl hR hS hc hs)
theorem xo_ldc2_w {G : xG} {l : Launch} {M : xMd} {X : Array Value → State → Prop} {P : xP} {pc : Nat} {k : xK} {index : Nat} {v : Int64} (hd : decode M.1 pc = .ok (.ldc2_w index, 3)) (hw : Cond.constantLong M.2.1 index v ∈ xws) (h : xW G l M X P (pc + 3) k) : xW G l M X P pc (x_c (.long v) k) := by
  intro p e s m args below meth c C lv st S H locs cells slots ls hK hl hR hS hc hs
  exact lv_ldc2 C.1 C.2.1 C.2.2.2.1 (C.2.2.2.2.1 _ hw) hd (h p e s m args below meth c C _ _ S H locs cells slots ls hK hl hR hS hc hs)
def x_iload (i : Nat) (k : xK) : xK := fun lv st S => match xlk lv i with
  | some (.int x) => k lv (.int x :: st) S
  | _ => False
theorem xo_iload_n {G : xG} {l : Launch} {M : xMd} {X : Array Value → State → Prop} {P : xP} {pc : Nat} {k : xK} {j : Fin 4} {i : Nat} (hd : decode M.1 pc = .ok (.iload_n j, 1)) (hi : (j : Nat) = i) (h : xW G l M X P (pc + 1) k) : xW G l M X P pc (x_iload i k) := by
  intro p e s m args below meth c C lv st S H locs cells slots ls hK hl hR hS hc hs
  unfold x_iload at hK
  split at hK
  · rename_i x ee
    exact lv_iload_n C.1 C.2.1 hd hi (xlk_at hl ee) (h p e s m args below meth c C _ _ S H locs cells slots ls hK hl hR hS hc hs)
  · exact hK.elim
theorem xo_iload {G : xG} {l : Launch} {M : xMd} {X : Array Value → State → Prop} {P : xP} {pc : Nat} {k : xK} {i : Nat} (hd : decode M.1 pc = .ok (.iload i, 2)) (h : xW G l M X P (pc + 2) k) : xW G l M X P pc (x_iload i k) := by
  intro p e s m args below meth c C lv st S H locs cells slots ls hK hl hR hS hc hs
  unfold x_iload at hK
  split at hK
  · rename_i x ee
    exact lv_iload C.1 C.2.1 hd (xlk_at hl ee) (h p e s m args below meth c C _ _ S H locs cells slots ls hK hl hR hS hc hs)
  · exact hK.elim
def x_lload (i : Nat) (k : xK) : xK := fun lv st S => match xlk lv i with
  | some (.long x) => k lv (.long x :: st) S
  | _ => False
theorem xo_lload_n {G : xG} {l : Launch} {M : xMd} {X : Array Value → State → Prop} {P : xP} {pc : Nat} {k : xK} {j : Fin 4} {i : Nat} (hd : decode M.1 pc = .ok (.lload_n j, 1)) (hi : (j : Nat) = i) (h : xW G l M X P (pc + 1) k) : xW G l M X P pc (x_lload i k) := by
  intro p e s m args below meth c C lv st S H locs cells slots ls hK hl hR hS hc hs
  unfold x_lload at hK
  split at hK
  · rename_i x ee
    exact lv_lload_n C.1 C.2.1 hd hi (xlk_at hl ee) (h p e s m args below meth c C _ _ S H locs cells slots ls hK hl hR hS hc hs)
  · exact hK.elim
theorem xo_lload {G : xG} {l : Launch} {M : xMd} {X : Array Value → State → Prop} {P : xP} {pc : Nat} {k : xK} {i : Nat} (hd : decode M.1 pc = .ok (.lload i, 2)) (h : xW G l M X P (pc + 2) k) : xW G l M X P pc (x_lload i k) := by
  intro p e s m args below meth c C lv st S H locs cells slots ls hK hl hR hS hc hs
  unfold x_lload at hK
  split at hK
  · rename_i x ee
    exact lv_lload C.1 C.2.1 hd (xlk_at hl ee) (h p e s m args below meth c C _ _ S H locs cells slots ls hK hl hR hS hc hs)
  · exact hK.elim
def x_aload (i : Nat) (k : xK) : xK := fun lv st S => match xlk lv i with
  | some (.ref x) => k lv (.ref x :: st) S
  | some .null => k lv (.null :: st) S
  | _ => False
theorem xo_aload_n {G : xG} {l : Launch} {M : xMd} {X : Array Value → State → Prop} {P : xP} {pc : Nat} {k : xK} {j : Fin 4} {i : Nat} (hd : decode M.1 pc = .ok (.aload_n j, 1)) (hi : (j : Nat) = i) (h : xW G l M X P (pc + 1) k) : xW G l M X P pc (x_aload i k) := by
  intro p e s m args below meth c C lv st S H locs cells slots ls hK hl hR hS hc hs
  unfold x_aload at hK
  split at hK
  · rename_i x ee
    exact lv_aload_n C.1 C.2.1 hd hi (xlk_at hl ee) (h p e s m args below meth c C _ _ S H locs cells slots ls hK hl hR hS hc hs)
  · rename_i ee
    exact lv_aload_nN C.1 C.2.1 hd hi (xlk_at hl ee) (h p e s m args below meth c C _ _ S H locs cells slots ls hK hl hR hS hc hs)
  · exact hK.elim
theorem xo_aload {G : xG} {l : Launch} {M : xMd} {X : Array Value → State → Prop} {P : xP} {pc : Nat} {k : xK} {i : Nat} (hd : decode M.1 pc = .ok (.aload i, 2))  (h : xW G l M X P (pc + 2) k) : xW G l M X P pc (x_aload i k) := by
  intro p e s m args below meth c C lv st S H locs cells slots ls hK hl hR hS hc hs
  unfold x_aload at hK
  split at hK
  · rename_i x ee
    exact lv_aload C.1 C.2.1 hd (xlk_at hl ee) (h p e s m args below meth c C _ _ S H locs cells slots ls hK hl hR hS hc hs)
  · rename_i ee
    exact lv_aloadN C.1 C.2.1 hd (xlk_at hl ee) (h p e s m args below meth c C _ _ S H locs cells slots ls hK hl hR hS hc hs)
  · exact hK.elim
def x_istore (i : Nat) (k : xK) : xK := fun lv st S => match st with
  | .int x :: r => k (xs1 lv i (.int x)) r S
  | _ => False
theorem xo_istore_n {G : xG} {l : Launch} {M : xMd} {X : Array Value → State → Prop} {P : xP} {pc : Nat} {k : xK} {j : Fin 4} {i : Nat} (hd : decode M.1 pc = .ok (.istore_n j, 1)) (hi : (j : Nat) = i) (hn : i < M.2.2.1) (h : xW G l M X P (pc + 1) k) : xW G l M X P pc (x_istore i k) := by
  intro p e s m args below meth c C lv st S H locs cells slots ls hK hl hR hS hc hs
  unfold x_istore at hK
  split at hK
  · exact lv_istore_n C.1 C.2.1 hd hi hl hn rfl (fun ls hl => (h p e s m args below meth c C _ _ S H locs cells slots ls hK hl hR hS hc hs))
  · exact hK.elim
theorem xo_istore {G : xG} {l : Launch} {M : xMd} {X : Array Value → State → Prop} {P : xP} {pc : Nat} {k : xK} {i : Nat} (hd : decode M.1 pc = .ok (.istore i, 2))  (hn : i < M.2.2.1) (h : xW G l M X P (pc + 2) k) : xW G l M X P pc (x_istore i k) := by
  intro p e s m args below meth c C lv st S H locs cells slots ls hK hl hR hS hc hs
  unfold x_istore at hK
  split at hK
  · exact lv_istore C.1 C.2.1 hd hl hn rfl (fun ls hl => (h p e s m args below meth c C _ _ S H locs cells slots ls hK hl hR hS hc hs))
  · exact hK.elim
def x_lstore (i : Nat) (k : xK) : xK := fun lv st S => match st with
  | .long x :: r => k (xs2 lv i (.long x)) r S
  | _ => False
theorem xo_lstore_n {G : xG} {l : Launch} {M : xMd} {X : Array Value → State → Prop} {P : xP} {pc : Nat} {k : xK} {j : Fin 4} {i : Nat} (hd : decode M.1 pc = .ok (.lstore_n j, 1)) (hi : (j : Nat) = i) (hn : i + 1 < M.2.2.1) (h : xW G l M X P (pc + 1) k) : xW G l M X P pc (x_lstore i k) := by
  intro p e s m args below meth c C lv st S H locs cells slots ls hK hl hR hS hc hs
  unfold x_lstore at hK
  split at hK
  · exact lv_lstore_n C.1 C.2.1 hd hi hl hn rfl (fun ls hl => (h p e s m args below meth c C _ _ S H locs cells slots ls hK hl hR hS hc hs))
  · exact hK.elim
theorem xo_lstore {G : xG} {l : Launch} {M : xMd} {X : Array Value → State → Prop} {P : xP} {pc : Nat} {k : xK} {i : Nat} (hd : decode M.1 pc = .ok (.lstore i, 2))  (hn : i + 1 < M.2.2.1) (h : xW G l M X P (pc + 2) k) : xW G l M X P pc (x_lstore i k) := by
  intro p e s m args below meth c C lv st S H locs cells slots ls hK hl hR hS hc hs
  unfold x_lstore at hK
  split at hK
  · exact lv_lstore C.1 C.2.1 hd hl hn rfl (fun ls hl => (h p e s m args below meth c C _ _ S H locs cells slots ls hK hl hR hS hc hs))
  · exact hK.elim
def x_astore (i : Nat) (k : xK) : xK := fun lv st S => match st with
  | .ref x :: r => k (xs1 lv i (.ref x)) r S
  | .null :: r => k (xs1 lv i .null) r S
  | _ => False
theorem xo_astore_n {G : xG} {l : Launch} {M : xMd} {X : Array Value → State → Prop} {P : xP} {pc : Nat} {k : xK} {j : Fin 4} {i : Nat} (hd : decode M.1 pc = .ok (.astore_n j, 1)) (hi : (j : Nat) = i) (hn : i < M.2.2.1) (h : xW G l M X P (pc + 1) k) : xW G l M X P pc (x_astore i k) := by
  intro p e s m args below meth c C lv st S H locs cells slots ls hK hl hR hS hc hs
  unfold x_astore at hK
  split at hK
  · exact lv_astore_n C.1 C.2.1 hd hi hl hn rfl (fun ls hl => (h p e s m args below meth c C _ _ S H locs cells slots ls hK hl hR hS hc hs))
  · exact lv_astore_nN C.1 C.2.1 hd hi hl hn rfl (fun ls hl => (h p e s m args below meth c C _ _ S H locs cells slots ls hK hl hR hS hc hs))
  · exact hK.elim
theorem xo_astore {G : xG} {l : Launch} {M : xMd} {X : Array Value → State → Prop} {P : xP} {pc : Nat} {k : xK} {i : Nat} (hd : decode M.1 pc = .ok (.astore i, 2))  (hn : i < M.2.2.1) (h : xW G l M X P (pc + 2) k) : xW G l M X P pc (x_astore i k) := by
  intro p e s m args below meth c C lv st S H locs cells slots ls hK hl hR hS hc hs
  unfold x_astore at hK
  split at hK
  · exact lv_astore C.1 C.2.1 hd hl hn rfl (fun ls hl => (h p e s m args below meth c C _ _ S H locs cells slots ls hK hl hR hS hc hs))
  · exact lv_astoreN C.1 C.2.1 hd hl hn rfl (fun ls hl => (h p e s m args below meth c C _ _ S H locs cells slots ls hK hl hR hS hc hs))
  · exact hK.elim
def x_iinc (i : Nat) (n : Int) (k : xK) : xK := fun lv st S => match xlk lv i with
  | some (.int x) => k (xs1 lv i (.int (x + Int32.ofInt n))) st S
  | _ => False
theorem xlk_ix {lv : List (Nat × Value)} {i : Nat} {v : Value} (e : xlk lv i = some v) : ∃ j : Nat, lv[j]? = some (i, v) := by
  induction lv with
  | nil => cases e
  | cons q l ih =>
    unfold xlk at e
    split at e
    · rename_i hq
      cases e
      exact ⟨0, by rw [← hq]; rfl⟩
    · obtain ⟨j, hj⟩ := ih e
      exact ⟨j + 1, hj⟩
theorem xo_iinc {G : xG} {l : Launch} {M : xMd} {X : Array Value → State → Prop} {P : xP} {pc : Nat} {k : xK} {i : Nat} {n : Int} (hd : decode M.1 pc = .ok (.iinc i n, 3)) (hn : i < M.2.2.1) (h : xW G l M X P (pc + 3) k) : xW G l M X P pc (x_iinc i n k) := by
  intro p e s m args below meth c C lv st S H locs cells slots ls hK hl hR hS hc hs
  unfold x_iinc at hK
  split at hK
  · rename_i x ee
    obtain ⟨j, hj⟩ := xlk_ix ee
    exact lv_iinc C.1 C.2.1 hd hl hj rfl hn rfl (fun ls hl => (h p e s m args below meth c C _ _ S H locs cells slots ls hK hl hR hS hc hs))
  · exact hK.elim
def x_iadd (k : xK) : xK := fun lv st S => match st with
  | .int y :: .int x :: r => k lv (.int (x + y) :: r) S
  | _ => False
theorem xo_iadd {G : xG} {l : Launch} {M : xMd} {X : Array Value → State → Prop} {P : xP} {pc : Nat} {k : xK} (hd : decode M.1 pc = .ok (.iadd, 1)) (h : xW G l M X P (pc + 1) k) : xW G l M X P pc (x_iadd k) := by
  intro p e s m args below meth c C lv st S H locs cells slots ls hK hl hR hS hc hs
  unfold x_iadd at hK
  split at hK
  · exact lv_iadd C.1 C.2.1 hd (h p e s m args below meth c C _ _ S H locs cells slots ls hK hl hR hS hc hs)
  · exact hK.elim
def x_isub (k : xK) : xK := fun lv st S => match st with
  | .int y :: .int x :: r => k lv (.int (x - y) :: r) S
  | _ => False
theorem xo_isub {G : xG} {l : Launch} {M : xMd} {X : Array Value → State → Prop} {P : xP} {pc : Nat} {k : xK} (hd : decode M.1 pc = .ok (.isub, 1)) (h : xW G l M X P (pc + 1) k) : xW G l M X P pc (x_isub k) := by
  intro p e s m args below meth c C lv st S H locs cells slots ls hK hl hR hS hc hs
  unfold x_isub at hK
  split at hK
  · exact lv_isub C.1 C.2.1 hd (h p e s m args below meth c C _ _ S H locs cells slots ls hK hl hR hS hc hs)
  · exact hK.elim
def x_imul (k : xK) : xK := fun lv st S => match st with
  | .int y :: .int x :: r => k lv (.int (x * y) :: r) S
  | _ => False
theorem xo_imul {G : xG} {l : Launch} {M : xMd} {X : Array Value → State → Prop} {P : xP} {pc : Nat} {k : xK} (hd : decode M.1 pc = .ok (.imul, 1)) (h : xW G l M X P (pc + 1) k) : xW G l M X P pc (x_imul k) := by
  intro p e s m args below meth c C lv st S H locs cells slots ls hK hl hR hS hc hs
  unfold x_imul at hK
  split at hK
  · exact lv_imul C.1 C.2.1 hd (h p e s m args below meth c C _ _ S H locs cells slots ls hK hl hR hS hc hs)
  · exact hK.elim
def x_iand (k : xK) : xK := fun lv st S => match st with
  | .int y :: .int x :: r => k lv (.int (x &&& y) :: r) S
  | _ => False
theorem xo_iand {G : xG} {l : Launch} {M : xMd} {X : Array Value → State → Prop} {P : xP} {pc : Nat} {k : xK} (hd : decode M.1 pc = .ok (.iand, 1)) (h : xW G l M X P (pc + 1) k) : xW G l M X P pc (x_iand k) := by
  intro p e s m args below meth c C lv st S H locs cells slots ls hK hl hR hS hc hs
  unfold x_iand at hK
  split at hK
  · exact lv_iand C.1 C.2.1 hd (h p e s m args below meth c C _ _ S H locs cells slots ls hK hl hR hS hc hs)
  · exact hK.elim
def x_ior (k : xK) : xK := fun lv st S => match st with
  | .int y :: .int x :: r => k lv (.int (x ||| y) :: r) S
  | _ => False
theorem xo_ior {G : xG} {l : Launch} {M : xMd} {X : Array Value → State → Prop} {P : xP} {pc : Nat} {k : xK} (hd : decode M.1 pc = .ok (.ior, 1)) (h : xW G l M X P (pc + 1) k) : xW G l M X P pc (x_ior k) := by
  intro p e s m args below meth c C lv st S H locs cells slots ls hK hl hR hS hc hs
  unfold x_ior at hK
  split at hK
  · exact lv_ior C.1 C.2.1 hd (h p e s m args below meth c C _ _ S H locs cells slots ls hK hl hR hS hc hs)
  · exact hK.elim
def x_ixor (k : xK) : xK := fun lv st S => match st with
  | .int y :: .int x :: r => k lv (.int (x ^^^ y) :: r) S
  | _ => False
theorem xo_ixor {G : xG} {l : Launch} {M : xMd} {X : Array Value → State → Prop} {P : xP} {pc : Nat} {k : xK} (hd : decode M.1 pc = .ok (.ixor, 1)) (h : xW G l M X P (pc + 1) k) : xW G l M X P pc (x_ixor k) := by
  intro p e s m args below meth c C lv st S H locs cells slots ls hK hl hR hS hc hs
  unfold x_ixor at hK
  split at hK
  · exact lv_ixor C.1 C.2.1 hd (h p e s m args below meth c C _ _ S H locs cells slots ls hK hl hR hS hc hs)
  · exact hK.elim
def x_ladd (k : xK) : xK := fun lv st S => match st with
  | .long y :: .long x :: r => k lv (.long (x + y) :: r) S
  | _ => False
theorem xo_ladd {G : xG} {l : Launch} {M : xMd} {X : Array Value → State → Prop} {P : xP} {pc : Nat} {k : xK} (hd : decode M.1 pc = .ok (.ladd, 1)) (h : xW G l M X P (pc + 1) k) : xW G l M X P pc (x_ladd k) := by
  intro p e s m args below meth c C lv st S H locs cells slots ls hK hl hR hS hc hs
  unfold x_ladd at hK
  split at hK
  · exact lv_ladd C.1 C.2.1 hd (h p e s m args below meth c C _ _ S H locs cells slots ls hK hl hR hS hc hs)
  · exact hK.elim
def x_lsub (k : xK) : xK := fun lv st S => match st with
  | .long y :: .long x :: r => k lv (.long (x - y) :: r) S
  | _ => False
theorem xo_lsub {G : xG} {l : Launch} {M : xMd} {X : Array Value → State → Prop} {P : xP} {pc : Nat} {k : xK} (hd : decode M.1 pc = .ok (.lsub, 1)) (h : xW G l M X P (pc + 1) k) : xW G l M X P pc (x_lsub k) := by
  intro p e s m args below meth c C lv st S H locs cells slots ls hK hl hR hS hc hs
  unfold x_lsub at hK
  split at hK
  · exact lv_lsub C.1 C.2.1 hd (h p e s m args below meth c C _ _ S H locs cells slots ls hK hl hR hS hc hs)
  · exact hK.elim
def x_lmul (k : xK) : xK := fun lv st S => match st with
  | .long y :: .long x :: r => k lv (.long (x * y) :: r) S
  | _ => False
theorem xo_lmul {G : xG} {l : Launch} {M : xMd} {X : Array Value → State → Prop} {P : xP} {pc : Nat} {k : xK} (hd : decode M.1 pc = .ok (.lmul, 1)) (h : xW G l M X P (pc + 1) k) : xW G l M X P pc (x_lmul k) := by
  intro p e s m args below meth c C lv st S H locs cells slots ls hK hl hR hS hc hs
  unfold x_lmul at hK
  split at hK
  · exact lv_lmul C.1 C.2.1 hd (h p e s m args below meth c C _ _ S H locs cells slots ls hK hl hR hS hc hs)
  · exact hK.elim
def x_land (k : xK) : xK := fun lv st S => match st with
  | .long y :: .long x :: r => k lv (.long (x &&& y) :: r) S
  | _ => False
theorem xo_land {G : xG} {l : Launch} {M : xMd} {X : Array Value → State → Prop} {P : xP} {pc : Nat} {k : xK} (hd : decode M.1 pc = .ok (.land, 1)) (h : xW G l M X P (pc + 1) k) : xW G l M X P pc (x_land k) := by
  intro p e s m args below meth c C lv st S H locs cells slots ls hK hl hR hS hc hs
  unfold x_land at hK
  split at hK
  · exact lv_land C.1 C.2.1 hd (h p e s m args below meth c C _ _ S H locs cells slots ls hK hl hR hS hc hs)
  · exact hK.elim
def x_lor (k : xK) : xK := fun lv st S => match st with
  | .long y :: .long x :: r => k lv (.long (x ||| y) :: r) S
  | _ => False
theorem xo_lor {G : xG} {l : Launch} {M : xMd} {X : Array Value → State → Prop} {P : xP} {pc : Nat} {k : xK} (hd : decode M.1 pc = .ok (.lor, 1)) (h : xW G l M X P (pc + 1) k) : xW G l M X P pc (x_lor k) := by
  intro p e s m args below meth c C lv st S H locs cells slots ls hK hl hR hS hc hs
  unfold x_lor at hK
  split at hK
  · exact lv_lor C.1 C.2.1 hd (h p e s m args below meth c C _ _ S H locs cells slots ls hK hl hR hS hc hs)
  · exact hK.elim
def x_lxor (k : xK) : xK := fun lv st S => match st with
  | .long y :: .long x :: r => k lv (.long (x ^^^ y) :: r) S
  | _ => False
theorem xo_lxor {G : xG} {l : Launch} {M : xMd} {X : Array Value → State → Prop} {P : xP} {pc : Nat} {k : xK} (hd : decode M.1 pc = .ok (.lxor, 1)) (h : xW G l M X P (pc + 1) k) : xW G l M X P pc (x_lxor k) := by
  intro p e s m args below meth c C lv st S H locs cells slots ls hK hl hR hS hc hs
  unfold x_lxor at hK
  split at hK
  · exact lv_lxor C.1 C.2.1 hd (h p e s m args below meth c C _ _ S H locs cells slots ls hK hl hR hS hc hs)
  · exact hK.elim
def x_idiv (k : xK) : xK := fun lv st S => match st with
  | .int y :: .int x :: r => ¬ y = 0 ∧ k lv (.int (x / y) :: r) S
  | _ => False
theorem xo_idiv {G : xG} {l : Launch} {M : xMd} {X : Array Value → State → Prop} {P : xP} {pc : Nat} {k : xK} (hd : decode M.1 pc = .ok (.idiv, 1)) (h : xW G l M X P (pc + 1) k) : xW G l M X P pc (x_idiv k) := by
  intro p e s m args below meth c C lv st S H locs cells slots ls hK hl hR hS hc hs
  unfold x_idiv at hK
  split at hK
  · exact lv_idiv C.1 C.2.1 hd hK.1 (h p e s m args below meth c C _ _ S H locs cells slots ls hK.2 hl hR hS hc hs)
  · exact hK.elim
def x_irem (k : xK) : xK := fun lv st S => match st with
  | .int y :: .int x :: r => ¬ y = 0 ∧ k lv (.int (x - x / y * y) :: r) S
  | _ => False
theorem xo_irem {G : xG} {l : Launch} {M : xMd} {X : Array Value → State → Prop} {P : xP} {pc : Nat} {k : xK} (hd : decode M.1 pc = .ok (.irem, 1)) (h : xW G l M X P (pc + 1) k) : xW G l M X P pc (x_irem k) := by
  intro p e s m args below meth c C lv st S H locs cells slots ls hK hl hR hS hc hs
  unfold x_irem at hK
  split at hK
  · exact lv_irem C.1 C.2.1 hd hK.1 (h p e s m args below meth c C _ _ S H locs cells slots ls hK.2 hl hR hS hc hs)
  · exact hK.elim
def x_ldiv (k : xK) : xK := fun lv st S => match st with
  | .long y :: .long x :: r => ¬ y = 0 ∧ k lv (.long (x / y) :: r) S
  | _ => False
theorem xo_ldiv {G : xG} {l : Launch} {M : xMd} {X : Array Value → State → Prop} {P : xP} {pc : Nat} {k : xK} (hd : decode M.1 pc = .ok (.ldiv, 1)) (h : xW G l M X P (pc + 1) k) : xW G l M X P pc (x_ldiv k) := by
  intro p e s m args below meth c C lv st S H locs cells slots ls hK hl hR hS hc hs
  unfold x_ldiv at hK
  split at hK
  · exact lv_ldiv C.1 C.2.1 hd hK.1 (h p e s m args below meth c C _ _ S H locs cells slots ls hK.2 hl hR hS hc hs)
  · exact hK.elim
def x_lrem (k : xK) : xK := fun lv st S => match st with
  | .long y :: .long x :: r => ¬ y = 0 ∧ k lv (.long (x - x / y * y) :: r) S
  | _ => False
theorem xo_lrem {G : xG} {l : Launch} {M : xMd} {X : Array Value → State → Prop} {P : xP} {pc : Nat} {k : xK} (hd : decode M.1 pc = .ok (.lrem, 1)) (h : xW G l M X P (pc + 1) k) : xW G l M X P pc (x_lrem k) := by
  intro p e s m args below meth c C lv st S H locs cells slots ls hK hl hR hS hc hs
  unfold x_lrem at hK
  split at hK
  · exact lv_lrem C.1 C.2.1 hd hK.1 (h p e s m args below meth c C _ _ S H locs cells slots ls hK.2 hl hR hS hc hs)
  · exact hK.elim
def x_ineg (k : xK) : xK := fun lv st S => match st with
  | .int x :: r => k lv (.int (-x) :: r) S
  | _ => False
theorem xo_ineg {G : xG} {l : Launch} {M : xMd} {X : Array Value → State → Prop} {P : xP} {pc : Nat} {k : xK} (hd : decode M.1 pc = .ok (.ineg, 1)) (h : xW G l M X P (pc + 1) k) : xW G l M X P pc (x_ineg k) := by
  intro p e s m args below meth c C lv st S H locs cells slots ls hK hl hR hS hc hs
  unfold x_ineg at hK
  split at hK
  · exact lv_ineg C.1 C.2.1 hd (h p e s m args below meth c C _ _ S H locs cells slots ls hK hl hR hS hc hs)
  · exact hK.elim
def x_lneg (k : xK) : xK := fun lv st S => match st with
  | .long x :: r => k lv (.long (-x) :: r) S
  | _ => False
theorem xo_lneg {G : xG} {l : Launch} {M : xMd} {X : Array Value → State → Prop} {P : xP} {pc : Nat} {k : xK} (hd : decode M.1 pc = .ok (.lneg, 1)) (h : xW G l M X P (pc + 1) k) : xW G l M X P pc (x_lneg k) := by
  intro p e s m args below meth c C lv st S H locs cells slots ls hK hl hR hS hc hs
  unfold x_lneg at hK
  split at hK
  · exact lv_lneg C.1 C.2.1 hd (h p e s m args below meth c C _ _ S H locs cells slots ls hK hl hR hS hc hs)
  · exact hK.elim
def x_ishl (k : xK) : xK := fun lv st S => match st with
  | .int y :: .int x :: r => k lv (.int (x <<< (y &&& 31)) :: r) S
  | _ => False
theorem xo_ishl {G : xG} {l : Launch} {M : xMd} {X : Array Value → State → Prop} {P : xP} {pc : Nat} {k : xK} (hd : decode M.1 pc = .ok (.ishl, 1)) (h : xW G l M X P (pc + 1) k) : xW G l M X P pc (x_ishl k) := by
  intro p e s m args below meth c C lv st S H locs cells slots ls hK hl hR hS hc hs
  unfold x_ishl at hK
  split at hK
  · exact lv_ishl C.1 C.2.1 hd (h p e s m args below meth c C _ _ S H locs cells slots ls hK hl hR hS hc hs)
  · exact hK.elim
def x_ishr (k : xK) : xK := fun lv st S => match st with
  | .int y :: .int x :: r => k lv (.int (x >>> (y &&& 31)) :: r) S
  | _ => False
theorem xo_ishr {G : xG} {l : Launch} {M : xMd} {X : Array Value → State → Prop} {P : xP} {pc : Nat} {k : xK} (hd : decode M.1 pc = .ok (.ishr, 1)) (h : xW G l M X P (pc + 1) k) : xW G l M X P pc (x_ishr k) := by
  intro p e s m args below meth c C lv st S H locs cells slots ls hK hl hR hS hc hs
  unfold x_ishr at hK
  split at hK
  · exact lv_ishr C.1 C.2.1 hd (h p e s m args below meth c C _ _ S H locs cells slots ls hK hl hR hS hc hs)
  · exact hK.elim
def x_iushr (k : xK) : xK := fun lv st S => match st with
  | .int y :: .int x :: r => k lv (.int ((x.toUInt32 >>> (y.toUInt32 &&& Int32.toUInt32 31)).toInt32) :: r) S
  | _ => False
theorem xo_iushr {G : xG} {l : Launch} {M : xMd} {X : Array Value → State → Prop} {P : xP} {pc : Nat} {k : xK} (hd : decode M.1 pc = .ok (.iushr, 1)) (h : xW G l M X P (pc + 1) k) : xW G l M X P pc (x_iushr k) := by
  intro p e s m args below meth c C lv st S H locs cells slots ls hK hl hR hS hc hs
  unfold x_iushr at hK
  split at hK
  · exact lv_iushr C.1 C.2.1 hd rfl (h p e s m args below meth c C _ _ S H locs cells slots ls hK hl hR hS hc hs)
  · exact hK.elim
def x_lshl (k : xK) : xK := fun lv st S => match st with
  | .int y :: .long x :: r => k lv (.long (x <<< (y.toInt64 &&& 63)) :: r) S
  | _ => False
theorem xo_lshl {G : xG} {l : Launch} {M : xMd} {X : Array Value → State → Prop} {P : xP} {pc : Nat} {k : xK} (hd : decode M.1 pc = .ok (.lshl, 1)) (h : xW G l M X P (pc + 1) k) : xW G l M X P pc (x_lshl k) := by
  intro p e s m args below meth c C lv st S H locs cells slots ls hK hl hR hS hc hs
  unfold x_lshl at hK
  split at hK
  · exact lv_lshl C.1 C.2.1 hd rfl (h p e s m args below meth c C _ _ S H locs cells slots ls hK hl hR hS hc hs)
  · exact hK.elim
def x_lshr (k : xK) : xK := fun lv st S => match st with
  | .int y :: .long x :: r => k lv (.long (x >>> (y.toInt64 &&& 63)) :: r) S
  | _ => False
theorem xo_lshr {G : xG} {l : Launch} {M : xMd} {X : Array Value → State → Prop} {P : xP} {pc : Nat} {k : xK} (hd : decode M.1 pc = .ok (.lshr, 1)) (h : xW G l M X P (pc + 1) k) : xW G l M X P pc (x_lshr k) := by
  intro p e s m args below meth c C lv st S H locs cells slots ls hK hl hR hS hc hs
  unfold x_lshr at hK
  split at hK
  · exact lv_lshr C.1 C.2.1 hd rfl (h p e s m args below meth c C _ _ S H locs cells slots ls hK hl hR hS hc hs)
  · exact hK.elim
def x_lushr (k : xK) : xK := fun lv st S => match st with
  | .int y :: .long x :: r => k lv (.long ((x.toUInt64 >>> (y.toInt64.toUInt64 &&& Int64.toUInt64 63)).toInt64) :: r) S
  | _ => False
theorem xo_lushr {G : xG} {l : Launch} {M : xMd} {X : Array Value → State → Prop} {P : xP} {pc : Nat} {k : xK} (hd : decode M.1 pc = .ok (.lushr, 1)) (h : xW G l M X P (pc + 1) k) : xW G l M X P pc (x_lushr k) := by
  intro p e s m args below meth c C lv st S H locs cells slots ls hK hl hR hS hc hs
  unfold x_lushr at hK
  split at hK
  · exact lv_lushr C.1 C.2.1 hd rfl (h p e s m args below meth c C _ _ S H locs cells slots ls hK hl hR hS hc hs)
  · exact hK.elim
def x_i2l (k : xK) : xK := fun lv st S => match st with
  | .int x :: r => k lv (.long x.toInt64 :: r) S
  | _ => False
theorem xo_i2l {G : xG} {l : Launch} {M : xMd} {X : Array Value → State → Prop} {P : xP} {pc : Nat} {k : xK} (hd : decode M.1 pc = .ok (.i2l, 1)) (h : xW G l M X P (pc + 1) k) : xW G l M X P pc (x_i2l k) := by
  intro p e s m args below meth c C lv st S H locs cells slots ls hK hl hR hS hc hs
  unfold x_i2l at hK
  split at hK
  · exact lv_i2l C.1 C.2.1 hd rfl (h p e s m args below meth c C _ _ S H locs cells slots ls hK hl hR hS hc hs)
  · exact hK.elim
def x_l2i (k : xK) : xK := fun lv st S => match st with
  | .long x :: r => k lv (.int x.toInt32 :: r) S
  | _ => False
theorem xo_l2i {G : xG} {l : Launch} {M : xMd} {X : Array Value → State → Prop} {P : xP} {pc : Nat} {k : xK} (hd : decode M.1 pc = .ok (.l2i, 1)) (h : xW G l M X P (pc + 1) k) : xW G l M X P pc (x_l2i k) := by
  intro p e s m args below meth c C lv st S H locs cells slots ls hK hl hR hS hc hs
  unfold x_l2i at hK
  split at hK
  · exact lv_l2i C.1 C.2.1 hd rfl (h p e s m args below meth c C _ _ S H locs cells slots ls hK hl hR hS hc hs)
  · exact hK.elim
def x_i2b (k : xK) : xK := fun lv st S => match st with
  | .int x :: r => k lv (.int x.toInt8.toInt32 :: r) S
  | _ => False
theorem xo_i2b {G : xG} {l : Launch} {M : xMd} {X : Array Value → State → Prop} {P : xP} {pc : Nat} {k : xK} (hd : decode M.1 pc = .ok (.i2b, 1)) (h : xW G l M X P (pc + 1) k) : xW G l M X P pc (x_i2b k) := by
  intro p e s m args below meth c C lv st S H locs cells slots ls hK hl hR hS hc hs
  unfold x_i2b at hK
  split at hK
  · exact lv_i2b C.1 C.2.1 hd rfl (h p e s m args below meth c C _ _ S H locs cells slots ls hK hl hR hS hc hs)
  · exact hK.elim
def x_i2c (k : xK) : xK := fun lv st S => match st with
  | .int x :: r => k lv (.int (x.toUInt32 % 65536).toInt32 :: r) S
  | _ => False
theorem xo_i2c {G : xG} {l : Launch} {M : xMd} {X : Array Value → State → Prop} {P : xP} {pc : Nat} {k : xK} (hd : decode M.1 pc = .ok (.i2c, 1)) (h : xW G l M X P (pc + 1) k) : xW G l M X P pc (x_i2c k) := by
  intro p e s m args below meth c C lv st S H locs cells slots ls hK hl hR hS hc hs
  unfold x_i2c at hK
  split at hK
  · exact lv_i2c C.1 C.2.1 hd rfl (h p e s m args below meth c C _ _ S H locs cells slots ls hK hl hR hS hc hs)
  · exact hK.elim
def x_lcmp (k : xK) : xK := fun lv st S => match st with
  | .long y :: .long x :: r => k lv (.int (lg_cmp x y) :: r) S
  | _ => False
theorem xo_lcmp {G : xG} {l : Launch} {M : xMd} {X : Array Value → State → Prop} {P : xP} {pc : Nat} {k : xK} (hd : decode M.1 pc = .ok (.lcmp, 1)) (h : xW G l M X P (pc + 1) k) : xW G l M X P pc (x_lcmp k) := by
  intro p e s m args below meth c C lv st S H locs cells slots ls hK hl hR hS hc hs
  unfold x_lcmp at hK
  split at hK
  · exact W.lcmp C.1 C.2.1 hd (h p e s m args below meth c C _ _ S H locs cells slots ls hK hl hR hS hc hs)
  · exact hK.elim
def x_if_eq (kt kf : xK) : xK := fun lv st S => match st with
  | .int x :: r => (x = 0 → kt lv r S) ∧ (¬ x = 0 → kf lv r S)
  | _ => False
def x_if_ne (kt kf : xK) : xK := fun lv st S => match st with
  | .int x :: r => (¬ x = 0 → kt lv r S) ∧ (x = 0 → kf lv r S)
  | _ => False
def x_if_lt (kt kf : xK) : xK := fun lv st S => match st with
  | .int x :: r => (x < 0 → kt lv r S) ∧ (¬ x < 0 → kf lv r S)
  | _ => False
def x_if_ge (kt kf : xK) : xK := fun lv st S => match st with
  | .int x :: r => (0 ≤ x → kt lv r S) ∧ (¬ 0 ≤ x → kf lv r S)
  | _ => False
def x_if_gt (kt kf : xK) : xK := fun lv st S => match st with
  | .int x :: r => (0 < x → kt lv r S) ∧ (¬ 0 < x → kf lv r S)
  | _ => False
def x_if_le (kt kf : xK) : xK := fun lv st S => match st with
  | .int x :: r => (x ≤ 0 → kt lv r S) ∧ (¬ x ≤ 0 → kf lv r S)
  | _ => False
def x_icmp_eq (kt kf : xK) : xK := fun lv st S => match st with
  | .int y :: .int x :: r => (x = y → kt lv r S) ∧ (¬ x = y → kf lv r S)
  | _ => False
def x_icmp_ne (kt kf : xK) : xK := fun lv st S => match st with
  | .int y :: .int x :: r => (¬ x = y → kt lv r S) ∧ (x = y → kf lv r S)
  | _ => False
def x_icmp_lt (kt kf : xK) : xK := fun lv st S => match st with
  | .int y :: .int x :: r => (x < y → kt lv r S) ∧ (¬ x < y → kf lv r S)
  | _ => False
def x_icmp_ge (kt kf : xK) : xK := fun lv st S => match st with
  | .int y :: .int x :: r => (y ≤ x → kt lv r S) ∧ (¬ y ≤ x → kf lv r S)
  | _ => False
def x_icmp_gt (kt kf : xK) : xK := fun lv st S => match st with
  | .int y :: .int x :: r => (y < x → kt lv r S) ∧ (¬ y < x → kf lv r S)
  | _ => False
def x_icmp_le (kt kf : xK) : xK := fun lv st S => match st with
  | .int y :: .int x :: r => (x ≤ y → kt lv r S) ∧ (¬ x ≤ y → kf lv r S)
  | _ => False
theorem xo_if_eq {G : xG} {l : Launch} {M : xMd} {X : Array Value → State → Prop} {P : xP} {pc : Nat} {kt kf : xK} {off : Int} {tgt : Nat} (hd : decode M.1 pc = .ok (.ifCond .eq off, 3)) (hT : (pc : Int) + off = (tgt : Int)) (ht : xW G l M X P tgt kt) (hf : xW G l M X P (pc + 3) kf) : xW G l M X P pc (x_if_eq kt kf) := by
  intro p e s m args below meth c C lv st S H locs cells slots ls hK hl hR hS hc hs
  unfold x_if_eq at hK
  split at hK
  · exact lv_if_eq C.1 C.2.1 hd hT (fun q => ht p e s m args below meth c C _ _ S H locs cells slots ls (hK.1 q) hl hR hS hc hs) (fun q => hf p e s m args below meth c C _ _ S H locs cells slots ls (hK.2 q) hl hR hS hc hs)
  · exact hK.elim
theorem xo_if_ne {G : xG} {l : Launch} {M : xMd} {X : Array Value → State → Prop} {P : xP} {pc : Nat} {kt kf : xK} {off : Int} {tgt : Nat} (hd : decode M.1 pc = .ok (.ifCond .ne off, 3)) (hT : (pc : Int) + off = (tgt : Int)) (ht : xW G l M X P tgt kt) (hf : xW G l M X P (pc + 3) kf) : xW G l M X P pc (x_if_ne kt kf) := by
  intro p e s m args below meth c C lv st S H locs cells slots ls hK hl hR hS hc hs
  unfold x_if_ne at hK
  split at hK
  · exact lv_if_ne C.1 C.2.1 hd hT (fun q => ht p e s m args below meth c C _ _ S H locs cells slots ls (hK.1 q) hl hR hS hc hs) (fun q => hf p e s m args below meth c C _ _ S H locs cells slots ls (hK.2 q) hl hR hS hc hs)
  · exact hK.elim
theorem xo_if_lt {G : xG} {l : Launch} {M : xMd} {X : Array Value → State → Prop} {P : xP} {pc : Nat} {kt kf : xK} {off : Int} {tgt : Nat} (hd : decode M.1 pc = .ok (.ifCond .lt off, 3)) (hT : (pc : Int) + off = (tgt : Int)) (ht : xW G l M X P tgt kt) (hf : xW G l M X P (pc + 3) kf) : xW G l M X P pc (x_if_lt kt kf) := by
  intro p e s m args below meth c C lv st S H locs cells slots ls hK hl hR hS hc hs
  unfold x_if_lt at hK
  split at hK
  · exact lv_if_lt C.1 C.2.1 hd hT (fun q => ht p e s m args below meth c C _ _ S H locs cells slots ls (hK.1 q) hl hR hS hc hs) (fun q => hf p e s m args below meth c C _ _ S H locs cells slots ls (hK.2 q) hl hR hS hc hs)
  · exact hK.elim
theorem xo_if_ge {G : xG} {l : Launch} {M : xMd} {X : Array Value → State → Prop} {P : xP} {pc : Nat} {kt kf : xK} {off : Int} {tgt : Nat} (hd : decode M.1 pc = .ok (.ifCond .ge off, 3)) (hT : (pc : Int) + off = (tgt : Int)) (ht : xW G l M X P tgt kt) (hf : xW G l M X P (pc + 3) kf) : xW G l M X P pc (x_if_ge kt kf) := by
  intro p e s m args below meth c C lv st S H locs cells slots ls hK hl hR hS hc hs
  unfold x_if_ge at hK
  split at hK
  · exact lv_if_ge C.1 C.2.1 hd hT (fun q => ht p e s m args below meth c C _ _ S H locs cells slots ls (hK.1 q) hl hR hS hc hs) (fun q => hf p e s m args below meth c C _ _ S H locs cells slots ls (hK.2 q) hl hR hS hc hs)
  · exact hK.elim
theorem xo_if_gt {G : xG} {l : Launch} {M : xMd} {X : Array Value → State → Prop} {P : xP} {pc : Nat} {kt kf : xK} {off : Int} {tgt : Nat} (hd : decode M.1 pc = .ok (.ifCond .gt off, 3)) (hT : (pc : Int) + off = (tgt : Int)) (ht : xW G l M X P tgt kt) (hf : xW G l M X P (pc + 3) kf) : xW G l M X P pc (x_if_gt kt kf) := by
  intro p e s m args below meth c C lv st S H locs cells slots ls hK hl hR hS hc hs
  unfold x_if_gt at hK
  split at hK
  · exact lv_if_gt C.1 C.2.1 hd hT (fun q => ht p e s m args below meth c C _ _ S H locs cells slots ls (hK.1 q) hl hR hS hc hs) (fun q => hf p e s m args below meth c C _ _ S H locs cells slots ls (hK.2 q) hl hR hS hc hs)
  · exact hK.elim
theorem xo_if_le {G : xG} {l : Launch} {M : xMd} {X : Array Value → State → Prop} {P : xP} {pc : Nat} {kt kf : xK} {off : Int} {tgt : Nat} (hd : decode M.1 pc = .ok (.ifCond .le off, 3)) (hT : (pc : Int) + off = (tgt : Int)) (ht : xW G l M X P tgt kt) (hf : xW G l M X P (pc + 3) kf) : xW G l M X P pc (x_if_le kt kf) := by
  intro p e s m args below meth c C lv st S H locs cells slots ls hK hl hR hS hc hs
  unfold x_if_le at hK
  split at hK
  · exact lv_if_le C.1 C.2.1 hd hT (fun q => ht p e s m args below meth c C _ _ S H locs cells slots ls (hK.1 q) hl hR hS hc hs) (fun q => hf p e s m args below meth c C _ _ S H locs cells slots ls (hK.2 q) hl hR hS hc hs)
  · exact hK.elim
theorem xo_icmp_eq {G : xG} {l : Launch} {M : xMd} {X : Array Value → State → Prop} {P : xP} {pc : Nat} {kt kf : xK} {off : Int} {tgt : Nat} (hd : decode M.1 pc = .ok (.if_icmp .eq off, 3)) (hT : (pc : Int) + off = (tgt : Int)) (ht : xW G l M X P tgt kt) (hf : xW G l M X P (pc + 3) kf) : xW G l M X P pc (x_icmp_eq kt kf) := by
  intro p e s m args below meth c C lv st S H locs cells slots ls hK hl hR hS hc hs
  unfold x_icmp_eq at hK
  split at hK
  · exact lv_icmp_eq C.1 C.2.1 hd hT (fun q => ht p e s m args below meth c C _ _ S H locs cells slots ls (hK.1 q) hl hR hS hc hs) (fun q => hf p e s m args below meth c C _ _ S H locs cells slots ls (hK.2 q) hl hR hS hc hs)
  · exact hK.elim
theorem xo_icmp_ne {G : xG} {l : Launch} {M : xMd} {X : Array Value → State → Prop} {P : xP} {pc : Nat} {kt kf : xK} {off : Int} {tgt : Nat} (hd : decode M.1 pc = .ok (.if_icmp .ne off, 3)) (hT : (pc : Int) + off = (tgt : Int)) (ht : xW G l M X P tgt kt) (hf : xW G l M X P (pc + 3) kf) : xW G l M X P pc (x_icmp_ne kt kf) := by
  intro p e s m args below meth c C lv st S H locs cells slots ls hK hl hR hS hc hs
  unfold x_icmp_ne at hK
  split at hK
  · exact lv_icmp_ne C.1 C.2.1 hd hT (fun q => ht p e s m args below meth c C _ _ S H locs cells slots ls (hK.1 q) hl hR hS hc hs) (fun q => hf p e s m args below meth c C _ _ S H locs cells slots ls (hK.2 q) hl hR hS hc hs)
  · exact hK.elim
theorem xo_icmp_lt {G : xG} {l : Launch} {M : xMd} {X : Array Value → State → Prop} {P : xP} {pc : Nat} {kt kf : xK} {off : Int} {tgt : Nat} (hd : decode M.1 pc = .ok (.if_icmp .lt off, 3)) (hT : (pc : Int) + off = (tgt : Int)) (ht : xW G l M X P tgt kt) (hf : xW G l M X P (pc + 3) kf) : xW G l M X P pc (x_icmp_lt kt kf) := by
  intro p e s m args below meth c C lv st S H locs cells slots ls hK hl hR hS hc hs
  unfold x_icmp_lt at hK
  split at hK
  · exact lv_icmp_lt C.1 C.2.1 hd hT (fun q => ht p e s m args below meth c C _ _ S H locs cells slots ls (hK.1 q) hl hR hS hc hs) (fun q => hf p e s m args below meth c C _ _ S H locs cells slots ls (hK.2 q) hl hR hS hc hs)
  · exact hK.elim
theorem xo_icmp_ge {G : xG} {l : Launch} {M : xMd} {X : Array Value → State → Prop} {P : xP} {pc : Nat} {kt kf : xK} {off : Int} {tgt : Nat} (hd : decode M.1 pc = .ok (.if_icmp .ge off, 3)) (hT : (pc : Int) + off = (tgt : Int)) (ht : xW G l M X P tgt kt) (hf : xW G l M X P (pc + 3) kf) : xW G l M X P pc (x_icmp_ge kt kf) := by
  intro p e s m args below meth c C lv st S H locs cells slots ls hK hl hR hS hc hs
  unfold x_icmp_ge at hK
  split at hK
  · exact lv_icmp_ge C.1 C.2.1 hd hT (fun q => ht p e s m args below meth c C _ _ S H locs cells slots ls (hK.1 q) hl hR hS hc hs) (fun q => hf p e s m args below meth c C _ _ S H locs cells slots ls (hK.2 q) hl hR hS hc hs)
  · exact hK.elim
theorem xo_icmp_gt {G : xG} {l : Launch} {M : xMd} {X : Array Value → State → Prop} {P : xP} {pc : Nat} {kt kf : xK} {off : Int} {tgt : Nat} (hd : decode M.1 pc = .ok (.if_icmp .gt off, 3)) (hT : (pc : Int) + off = (tgt : Int)) (ht : xW G l M X P tgt kt) (hf : xW G l M X P (pc + 3) kf) : xW G l M X P pc (x_icmp_gt kt kf) := by
  intro p e s m args below meth c C lv st S H locs cells slots ls hK hl hR hS hc hs
  unfold x_icmp_gt at hK
  split at hK
  · exact lv_icmp_gt C.1 C.2.1 hd hT (fun q => ht p e s m args below meth c C _ _ S H locs cells slots ls (hK.1 q) hl hR hS hc hs) (fun q => hf p e s m args below meth c C _ _ S H locs cells slots ls (hK.2 q) hl hR hS hc hs)
  · exact hK.elim
theorem xo_icmp_le {G : xG} {l : Launch} {M : xMd} {X : Array Value → State → Prop} {P : xP} {pc : Nat} {kt kf : xK} {off : Int} {tgt : Nat} (hd : decode M.1 pc = .ok (.if_icmp .le off, 3)) (hT : (pc : Int) + off = (tgt : Int)) (ht : xW G l M X P tgt kt) (hf : xW G l M X P (pc + 3) kf) : xW G l M X P pc (x_icmp_le kt kf) := by
  intro p e s m args below meth c C lv st S H locs cells slots ls hK hl hR hS hc hs
  unfold x_icmp_le at hK
  split at hK
  · exact lv_icmp_le C.1 C.2.1 hd hT (fun q => ht p e s m args below meth c C _ _ S H locs cells slots ls (hK.1 q) hl hR hS hc hs) (fun q => hf p e s m args below meth c C _ _ S H locs cells slots ls (hK.2 q) hl hR hS hc hs)
  · exact hK.elim
theorem xo_goto {G : xG} {l : Launch} {M : xMd} {X : Array Value → State → Prop} {P : xP} {pc : Nat} {k : xK} {off : Int} {tgt : Nat} (hd : decode M.1 pc = .ok (.goto off, 3)) (hT : (pc : Int) + off = (tgt : Int)) (h : xW G l M X P tgt k) : xW G l M X P pc k := by
  intro p e s m args below meth c C lv st S H locs cells slots ls hK hl hR hS hc hs
  exact lv_goto C.1 C.2.1 hd hT (h p e s m args below meth c C _ _ S H locs cells slots ls hK hl hR hS hc hs)
def x_dup (k : xK) : xK := fun lv st S => match st with
  | v :: r => v.category = 1 ∧ k lv (v :: v :: r) S
  | _ => False
def x_pop (k : xK) : xK := fun lv st S => match st with
  | v :: r => v.category = 1 ∧ k lv r S
  | _ => False
def x_dup_x1 (k : xK) : xK := fun lv st S => match st with
  | v :: w :: r => v.category = 1 ∧ w.category = 1 ∧ k lv (v :: w :: v :: r) S
  | _ => False
def x_dup2 (k : xK) : xK := fun lv st S => match st with
  | v :: w :: r => v.category = 1 ∧ w.category = 1 ∧ k lv (v :: w :: v :: w :: r) S
  | _ => False
theorem xo_dup {G : xG} {l : Launch} {M : xMd} {X : Array Value → State → Prop} {P : xP} {pc : Nat} {k : xK} (hd : decode M.1 pc = .ok (.dup, 1)) (h : xW G l M X P (pc + 1) k) : xW G l M X P pc (x_dup k) := by
  intro p e s m args below meth c C lv st S H locs cells slots ls hK hl hR hS hc hs
  unfold x_dup at hK
  split at hK
  · exact lv_dup C.1 C.2.1 hd hK.1 (h p e s m args below meth c C _ _ S H locs cells slots ls hK.2 hl hR hS hc hs)
  · exact hK.elim
theorem xo_pop {G : xG} {l : Launch} {M : xMd} {X : Array Value → State → Prop} {P : xP} {pc : Nat} {k : xK} (hd : decode M.1 pc = .ok (.pop, 1)) (h : xW G l M X P (pc + 1) k) : xW G l M X P pc (x_pop k) := by
  intro p e s m args below meth c C lv st S H locs cells slots ls hK hl hR hS hc hs
  unfold x_pop at hK
  split at hK
  · exact lv_pop C.1 C.2.1 hd hK.1 (h p e s m args below meth c C _ _ S H locs cells slots ls hK.2 hl hR hS hc hs)
  · exact hK.elim
theorem xo_dup_x1 {G : xG} {l : Launch} {M : xMd} {X : Array Value → State → Prop} {P : xP} {pc : Nat} {k : xK} (hd : decode M.1 pc = .ok (.dup_x1, 1)) (h : xW G l M X P (pc + 1) k) : xW G l M X P pc (x_dup_x1 k) := by
  intro p e s m args below meth c C lv st S H locs cells slots ls hK hl hR hS hc hs
  unfold x_dup_x1 at hK
  split at hK
  · exact lv_dup_x1 C.1 C.2.1 hd hK.1 hK.2.1 (h p e s m args below meth c C _ _ S H locs cells slots ls hK.2.2 hl hR hS hc hs)
  · exact hK.elim
theorem xo_dup2 {G : xG} {l : Launch} {M : xMd} {X : Array Value → State → Prop} {P : xP} {pc : Nat} {k : xK} (hd : decode M.1 pc = .ok (.dup2, 1)) (h : xW G l M X P (pc + 1) k) : xW G l M X P pc (x_dup2 k) := by
  intro p e s m args below meth c C lv st S H locs cells slots ls hK hl hR hS hc hs
  unfold x_dup2 at hK
  split at hK
  · exact lv_dup2_11 C.1 C.2.1 hd hK.1 hK.2.1 (h p e s m args below meth c C _ _ S H locs cells slots ls hK.2.2 hl hR hS hc hs)
  · exact hK.elim
