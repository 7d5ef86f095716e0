/-! returns and calls -/
section XR
variable {G : xG} {l : Launch} {M : xMd} {X : Array Value → State → Prop} {pc : Nat} {Q : xQ}
def x_iret (Q : xQ) : xK := fun _ st S => match st with
  | [.int v] => Q (some (.int v)) S
  | _ => False
def x_zret (ty : FieldType) (Q : xQ) : xK := fun _ st S => match st with
  | [.int v] => narrow ty (.int v) = .int v ∧ Q (some (.int v)) S
  | _ => False
def x_lret (Q : xQ) : xK := fun _ st S => match st with
  | [.long v] => Q (some (.long v)) S
  | _ => False
def x_aret (Q : xQ) : xK := fun _ st S => match st with
  | [.ref v] => Q (some (.ref v)) S
  | [.null] => Q (some .null) S
  | _ => False
def x_vret (Q : xQ) : xK := fun _ st S => match st with
  | [] => Q none S
  | _ => False
theorem xo_iret (hr : M.2.2.2.1 = some .int) (hd : decode M.1 pc = .ok (.ireturn, 1)) : xW G l M X (xPm G Q M.2.2.2.2.2) pc (x_iret Q) := by
  intro p e s m args below meth c C lv st S H locs cells slots ls hK hl hR hS hc hs
  unfold x_iret at hK
  split at hK
  · rename_i v
    refine W.widen (k := M.2.2.2.2.2.cells) (n := M.2.2.2.2.2.slots) (by omega) (by omega) ?_
    exact W.iret C.1 C.2.1 (C.2.2.2.2.2.1.trans hr) (fun t ht hW => ⟨⟨_, S, rfl, by rw [ht]; exact hR, hK⟩, hS.F ht⟩) hS.2.2 hd C.2.2.2.2.2.2.1
  · exact hK.elim
theorem xo_zret {ty : FieldType} (hr : M.2.2.2.1 = some ty) (hd : decode M.1 pc = .ok (.ireturn, 1)) : xW G l M X (xPm G Q M.2.2.2.2.2) pc (x_zret ty Q) := by
  intro p e s m args below meth c C lv st S H locs cells slots ls hK hl hR hS hc hs
  unfold x_zret at hK
  split at hK
  · rename_i v
    refine W.widen (k := M.2.2.2.2.2.cells) (n := M.2.2.2.2.2.slots) (by omega) (by omega) ?_
    exact W.zret C.1 C.2.1 (C.2.2.2.2.2.1.trans hr) hK.1 (fun t ht hW => ⟨⟨_, S, rfl, by rw [ht]; exact hR, hK.2⟩, hS.F ht⟩) hS.2.2 hd C.2.2.2.2.2.2.1
  · exact hK.elim
theorem xo_lret (hr : M.2.2.2.1 = some .long) (hd : decode M.1 pc = .ok (.lreturn, 1)) : xW G l M X (xPm G Q M.2.2.2.2.2) pc (x_lret Q) := by
  intro p e s m args below meth c C lv st S H locs cells slots ls hK hl hR hS hc hs
  unfold x_lret at hK
  split at hK
  · rename_i v
    refine W.widen (k := M.2.2.2.2.2.cells) (n := M.2.2.2.2.2.slots) (by omega) (by omega) ?_
    exact W.lret C.1 C.2.1 (C.2.2.2.2.2.1.trans hr) (fun t ht hW => ⟨⟨_, S, rfl, by rw [ht]; exact hR, hK⟩, hS.F ht⟩) hS.2.2 hd C.2.2.2.2.2.2.1
  · exact hK.elim
theorem xo_vret (hr : M.2.2.2.1 = none) (hd : decode M.1 pc = .ok (.return_, 1)) : xW G l M X (xPm G Q M.2.2.2.2.2) pc (x_vret Q) := by
  intro p e s m args below meth c C lv st S H locs cells slots ls hK hl hR hS hc hs
  unfold x_vret at hK
  split at hK
  · refine W.widen (k := M.2.2.2.2.2.cells) (n := M.2.2.2.2.2.slots) (by omega) (by omega) ?_
    exact W.vret C.1 C.2.1 (C.2.2.2.2.2.1.trans hr) (fun t ht hW => ⟨⟨_, S, rfl, by rw [ht]; exact hR, hK⟩, hS.F ht⟩) hS.2.2 hd C.2.2.2.2.2.2.1
  · exact hK.elim
theorem xo_aret {rt : FieldType} (hr : M.2.2.2.1 = some rt) (hrt : (∃ n, rt = .object n) ∨ ∃ t, rt = .array t) (hd : decode M.1 pc = .ok (.areturn, 1)) : xW G l M X (xPm G Q M.2.2.2.2.2) pc (x_aret Q) := by
  intro p e s m args below meth c C lv st S H locs cells slots ls hK hl hR hS hc hs
  unfold x_aret at hK
  split at hK
  · rename_i v
    refine W.widen (k := M.2.2.2.2.2.cells) (n := M.2.2.2.2.2.slots) (by omega) (by omega) ?_
    exact W.aret C.1 C.2.1 (C.2.2.2.2.2.1.trans hr) hrt (Or.inr ⟨v, rfl⟩) (fun t ht hW => ⟨⟨_, S, rfl, by rw [ht]; exact hR, hK⟩, hS.F ht⟩) hS.2.2 hd C.2.2.2.2.2.2.1
  · refine W.widen (k := M.2.2.2.2.2.cells) (n := M.2.2.2.2.2.slots) (by omega) (by omega) ?_
    exact W.aret C.1 C.2.1 (C.2.2.2.2.2.1.trans hr) hrt (Or.inl rfl) (fun t ht hW => ⟨⟨_, S, rfl, by rw [ht]; exact hR, hK⟩, hS.F ht⟩) hS.2.2 hd C.2.2.2.2.2.2.1
  · exact hK.elim
end XR
/-- a call with n words of arguments on the stack (the receiver among them); the callee may make mc cells of ms slots -/
def x_call (C : xC) (n mc ms : Nat) (k : xK) : xK := fun lv st S => (st.take n).length = n ∧ ((st.drop n).map fun v => v.category).sum ≤ 8 ∧ mc ≤ S.2.2.1 ∧ ms ≤ S.2.2.2 ∧
  C (st.take n).reverse (S.1, S.2.1, mc, ms) (fun r S' => k lv (r.toList ++ st.drop n) (S'.1, S'.2.1, S.2.2.1 - mc, S.2.2.2 - ms))
/-- the same, on an object of the class ci -/
def x_callv (ci : Nat) (C : xC) (n mc ms : Nat) (k : xK) : xK := fun lv st S => (∃ b fs, (st.take n).reverse.head? = some (.ref b) ∧ S.1 b = some (.inr (ci, fs))) ∧ x_call C n mc ms k lv st S
section XL
variable {G : xG} {l : Launch} {M : xMd} {X : Array Value → State → Prop} {P : xP} {pc : Nat} {k : xK}
theorem xblind {S : xS} {av : List Value} : FrameBlind (va_Pc av (fun U => xRep G S U.heap ∧ xI G U)) := by
  intro a U g mk h
  obtain ⟨h1, h2, h3, h4, h6⟩ := h
  refine ⟨h1, h2, va_K.moved (u := U) (U := U.calling g mk a) (Vm.Alike.refl U.vm) h3, fun w hw => ?_, h6.mv (U := U.calling g mk a) (Vm.Alike.refl U.vm) (fun _ _ _ _ q => vk_R.same rfl q) (fun _ _ q => va_Nw.same rfl (rfl : U.vm = (U.calling g mk a).vm) q)⟩
  have hw2 := (List.mem_filter.mp hw).2
  have h5 := h4 w hw
  cases w <;> first | exact va_Nw.same rfl (rfl : U.vm = (U.calling g mk a).vm) h5 | cases hw2
/-- behind a call's run -/
theorem xcall_goes {p : Program} {e : Env} {s : State} {m : MethodId} {args : Array Value} {below : List Frame} {meth : Method} {c : Code} (Cx : xCx G M X p s m args meth c) {lv : List (Nat × Value)} {st : List Value} {S : xS} {H : Heap} {locs : List Loc} {cells slots mc ms : Nat} {ls : Array Slot} {rest av : List Value}
    (hl : lv_has ls M.2.2.1 lv) (hS : va_S (xA G) s.heap H locs) (hc : cells + S.2.2.1 ≤ M.2.2.2.2.2.cells) (hs : slots + S.2.2.2 ≤ M.2.2.2.2.2.slots) (hmc : mc ≤ S.2.2.1) (hms : ms ≤ S.2.2.2)
    (h : xW G l M X P (pc + 3) k) (hr : va_Run p l e M.2.2.2.2.2 s m args below meth c H locs cells slots mc ms (F0 m pc ls st) rest (xQc G (fun r S' => k lv (r.toList ++ rest) (S'.1, S'.2.1, S.2.2.1 - mc, S.2.2.2 - ms)) av.toArray) (xA G)) :
    W p l e M.2.2.2.2.2 s m args below meth c H locs cells slots (P below args s) (F0 m pc ls st) := by
  intro T hT X0
  obtain ⟨v, st₀, t, T', L, h0, X', hL, e1, e2, ⟨⟨r, S', hv, hR', hK'⟩, hz, hk⟩, go⟩ := hr T hT X0
  cases hv
  rw [h0] at hz hk
  obtain ⟨t2, a1, b1⟩ := h p e s m args below meth c Cx lv _ _ T'.heap (locs ++ L) (cells + mc) (slots + ms) ls hK' hl (by rw [e1]; exact hR') ⟨Nat.le_trans hS.1 (by rw [e1]; exact hz), fun q h1 h2 => by rw [e1, hk q (Nat.lt_of_lt_of_le h1 hS.1) h2]; exact hS.2.1 q h1 h2, fun q hq => by
      rcases List.mem_append.mp hq with h | h
      · exact hS.2.2 q h
      · exact hL q h⟩ (by show cells + mc + (S.2.2.1 - mc) ≤ _; omega) (by show slots + ms + (S.2.2.2 - ms) ≤ _; omega) T' rfl X'
  exact ⟨t2, go t2 a1, b1⟩
variable {y : MethodName} {cc : ByteArray} {nL index np : Nat} {ret : Option FieldType} {R : Room} {C : xC}
theorem xgood (hcode : Cond.code y cc nL ret ∈ xws) : GoodIn xws (Cond.code y cc nL ret :: xws) := fun w hw => (List.mem_cons.mp hw).elim (fun e => by subst e; exact xws_good _ hcode) (xws_good w)
theorem xtake {st : List Value} {n : Nat} (h : (st.take n).length = n) : st = (st.take n).reverse.reverse ++ st.drop n := by rw [List.reverse_reverse, List.take_append_drop]
theorem xo_callS (hM : xM G l y cc nL ret R C) (hd : decode M.1 pc = .ok (.invokestatic index, 3)) (hcode : Cond.code y cc nL ret ∈ xws) (hlk : Cond.methodLink M.2.1 index y ∈ xws) (hst : Cond.static y ∈ xws) (hini : Cond.initialized y.cls ∈ xws)
    (hyd : y.cls ≠ "java/lang/invoke/MethodHandle" ∧ y.cls ≠ "java/lang/invoke/VarHandle" ∧ (parseMethodDescriptor y.desc).map (fun d => d.parameters.length) = some np) (hroom : R.frames + 1 ≤ M.2.2.2.2.2.frames ∧ 8 + (nL + 11) + R.locals ≤ M.2.2.2.2.2.locals)
    (h : xW G l M X P (pc + 3) k) : xW G l M X P pc (x_call C np R.cells R.slots k) := by
  intro p e s m args below meth c Cx lv st S H locs cells slots ls hK hl hR hS hc hs
  obtain ⟨h1, h2, h3, h4, hK⟩ := hK
  obtain ⟨hx, hb, hml, hown, hts, -, -, -, hI, -, -⟩ := id Cx
  refine xcall_goes Cx hl hS hc hs h3 h4 h (va_runS (n := np) (As := (st.take np).reverse) ⟨hx, hb, hml, hown, hts⟩ (hM _ _ _ hK rfl rfl) ⟨callB_of np hts (xgood hcode) rfl rfl rfl (hts _ hini) (hts _ hlk) hyd hroom, hts _ hst⟩ ⟨xblind, fun U hU hW => ⟨rfl, by rw [hU]; exact hR, hI.warm hW⟩⟩ rfl (by rw [List.length_reverse]; exact h1) hl.1 (xtake h1) (lv_room h2) hd ⟨by omega, by omega⟩)
theorem xo_callSN {host : String} (hM : xM G l y cc nL ret R C) (hd : decode M.1 pc = .ok (.invokestatic index, 3)) (hcode : Cond.code y cc nL ret ∈ xws) (hlk : Cond.methodLinkNest M.2.1 index y host ∈ xnw) (hst : Cond.static y ∈ xws) (hini : Cond.initialized y.cls ∈ xws)
    (hyd : y.cls ≠ "java/lang/invoke/MethodHandle" ∧ y.cls ≠ "java/lang/invoke/VarHandle" ∧ (parseMethodDescriptor y.desc).map (fun d => d.parameters.length) = some np) (hroom : R.frames + 1 ≤ M.2.2.2.2.2.frames ∧ 8 + (nL + 11) + R.locals ≤ M.2.2.2.2.2.locals)
    (h : xW G l M X P (pc + 3) k) : xW G l M X P pc (x_call C np R.cells R.slots k) := by
  intro p e s m args below meth c Cx lv st S H locs cells slots ls hK hl hR hS hc hs
  obtain ⟨h1, h2, h3, h4, hK⟩ := hK
  obtain ⟨hx, hb, hml, hown, hts, -, -, -, hI, -, -⟩ := id Cx
  refine xcall_goes Cx hl hS hc hs h3 h4 h (va_runSN (n := np) (As := (st.take np).reverse) ⟨hx, hb, hml, hown, hts⟩ (hM _ _ _ hK rfl rfl) ⟨va_cnB np hts (xgood hcode) rfl rfl rfl (hI.2.1 _ hlk) (hts _ hini) hyd hroom, hts _ hst, trivial⟩ ⟨xblind, fun U hU hW => ⟨rfl, by rw [hU]; exact hR, hI.warm hW⟩⟩ rfl (by rw [List.length_reverse]; exact h1) hl.1 (xtake h1) (lv_room h2) hd ⟨by omega, by omega⟩)
/-- the receiver is the lowest of the arguments -/
theorem xrecv {st : List Value} {n b : Nat} (h1 : (st.take (n + 1)).length = n + 1) (h : (st.take (n + 1)).reverse.head? = some (.ref b)) : (st.take (n + 1)).reverse = .ref b :: (st.take n).reverse ∧ st = (st.take n).reverse.reverse ++ .ref b :: st.drop (n + 1) ∧ (st.take n).reverse.length = n := by
  have hlen : n < st.length := by rw [List.length_take] at h1; omega
  have e0 : st.take (n + 1) = st.take n ++ [st[n]] := by rw [List.take_add_one, List.getElem?_eq_getElem hlen]; rfl
  rw [e0, List.reverse_append] at h
  have e1 : st[n] = .ref b := by simpa using h
  refine ⟨by rw [e0, e1, List.reverse_append]; rfl, ?_, by rw [List.length_reverse, List.length_take]; omega⟩
  rw [List.reverse_reverse, ← e1, ← List.drop_eq_getElem_cons hlen, List.take_append_drop]
theorem xo_callV {ci N : Nat} {T : u_T} {Cn : String} (hq : vwCl[ci]? = some (Cn, T, N)) (hM : xM G l y cc nL ret R C) (hd : decode M.1 pc = .ok (.invokevirtual index, 3)) (hcode : Cond.code y cc nL ret ∈ xws) (hlk : Cond.methodLink M.2.1 index y ∈ xws) (hin : Cond.instanceMethod y ∈ xws) (hsel : Cond.selects Cn y y ∈ xws) (hini : Cond.initialized y.cls ∈ xws)
    (hyd : y.cls ≠ "java/lang/invoke/MethodHandle" ∧ y.cls ≠ "java/lang/invoke/VarHandle" ∧ (parseMethodDescriptor y.desc).map (fun d => d.parameters.length) = some np) (hroom : R.frames + 1 ≤ M.2.2.2.2.2.frames ∧ 8 + (nL + 11) + R.locals ≤ M.2.2.2.2.2.locals)
    (h : xW G l M X P (pc + 3) k) : xW G l M X P pc (x_callv ci C (np + 1) R.cells R.slots k) := by
  intro p e s m args below meth c Cx lv st S H locs cells slots ls hK hl hR hS hc hs
  obtain ⟨⟨b, fs, hb1, hb2⟩, h1, h2, h3, h4, hK⟩ := hK
  obtain ⟨hx, hb, hml, hown, hts, -, -, -, hI, -, -⟩ := id Cx
  obtain ⟨r1, r2, r3⟩ := xrecv h1 hb1
  obtain ⟨rr, g1, cell, q1, q2, q3, -⟩ := (hR.2.2.1 b _ hb2 rfl).2
  rw [r1] at hK
  refine xcall_goes Cx hl hS hc hs h3 h4 h (va_runV (n := np) (C := Cn) (As := (st.take np).reverse) (b := b) ⟨hx, hb, hml, hown, hts⟩ (hM _ _ _ hK rfl rfl) ⟨callB_of np hts (xgood hcode) rfl rfl rfl (hts _ hini) (hts _ hlk) hyd hroom, hts _ hin, hts _ hsel⟩ ⟨xblind, ⟨cell, q1, by rw [q3]; rfl, by rw [q2]; exact (hI.1.1 ci _ hq).2.1⟩, fun U hU hW => ⟨rfl, by rw [hU]; exact hR, hI.warm hW⟩⟩ rfl r3 hl.1 r2 (lv_room h2) hd ⟨by omega, by omega⟩)
theorem xo_callVN {ci N : Nat} {T : u_T} {Cn host : String} (hq : vwCl[ci]? = some (Cn, T, N)) (hM : xM G l y cc nL ret R C) (hd : decode M.1 pc = .ok (.invokevirtual index, 3)) (hcode : Cond.code y cc nL ret ∈ xws) (hlk : Cond.methodLinkNest M.2.1 index y host ∈ xnw) (hin : Cond.instanceMethod y ∈ xws) (hsel : Cond.selects Cn y y ∈ xws) (hini : Cond.initialized y.cls ∈ xws)
    (hyd : y.cls ≠ "java/lang/invoke/MethodHandle" ∧ y.cls ≠ "java/lang/invoke/VarHandle" ∧ (parseMethodDescriptor y.desc).map (fun d => d.parameters.length) = some np) (hroom : R.frames + 1 ≤ M.2.2.2.2.2.frames ∧ 8 + (nL + 11) + R.locals ≤ M.2.2.2.2.2.locals)
    (h : xW G l M X P (pc + 3) k) : xW G l M X P pc (x_callv ci C (np + 1) R.cells R.slots k) := by
  intro p e s m args below meth c Cx lv st S H locs cells slots ls hK hl hR hS hc hs
  obtain ⟨⟨b, fs, hb1, hb2⟩, h1, h2, h3, h4, hK⟩ := hK
  obtain ⟨hx, hb, hml, hown, hts, -, -, -, hI, -, -⟩ := id Cx
  obtain ⟨r1, r2, r3⟩ := xrecv h1 hb1
  obtain ⟨rr, g1, cell, q1, q2, q3, -⟩ := (hR.2.2.1 b _ hb2 rfl).2
  rw [r1] at hK
  refine xcall_goes Cx hl hS hc hs h3 h4 h (va_runVN (n := np) (C := Cn) (As := (st.take np).reverse) (b := b) ⟨hx, hb, hml, hown, hts⟩ (hM _ _ _ hK rfl rfl) ⟨va_cnB np hts (xgood hcode) rfl rfl rfl (hI.2.1 _ hlk) (hts _ hini) hyd hroom, hts _ hin, hts _ hsel⟩ ⟨xblind, ⟨cell, q1, by rw [q3]; rfl, by rw [q2]; exact (hI.1.1 ci _ hq).2.1⟩, fun U hU hW => ⟨rfl, by rw [hU]; exact hR, hI.warm hW⟩⟩ rfl r3 hl.1 r2 (lv_room h2) hd ⟨by omega, by omega⟩)
/-- a constructor: the receiver is any reference -/
def x_calli (C : xC) (n mc ms : Nat) (k : xK) : xK := fun lv st S => (∃ b, (st.take n).reverse.head? = some (.ref b)) ∧ x_call C n mc ms k lv st S
theorem xo_callI (hM : xM G l y cc nL none R C) (hd : decode M.1 pc = .ok (.invokespecial index, 3)) (hcode : Cond.code y cc nL none ∈ xws) (hlk : Cond.methodLink M.2.1 index y ∈ xws) (hin : Cond.instanceMethod y ∈ xws) (hini : Cond.initialized y.cls ∈ xws) (hy1 : y.name = "<init>")
    (hyd : y.cls ≠ "java/lang/invoke/MethodHandle" ∧ y.cls ≠ "java/lang/invoke/VarHandle" ∧ (parseMethodDescriptor y.desc).map (fun d => d.parameters.length) = some np) (hroom : R.frames + 1 ≤ M.2.2.2.2.2.frames ∧ 8 + (nL + 11) + R.locals ≤ M.2.2.2.2.2.locals)
    (h : xW G l M X P (pc + 3) k) : xW G l M X P pc (x_calli C (np + 1) R.cells R.slots k) := by
  intro p e s m args below meth c Cx lv st S H locs cells slots ls hK hl hR hS hc hs
  obtain ⟨⟨b, hb1⟩, h1, h2, h3, h4, hK⟩ := hK
  obtain ⟨hx, hb, hml, hown, hts, -, -, -, hI, -, -⟩ := id Cx
  obtain ⟨r1, r2, r3⟩ := xrecv h1 hb1
  rw [r1] at hK
  refine xcall_goes Cx hl hS hc hs h3 h4 h (va_runI (n := np) (As := (st.take np).reverse) (b := b) ⟨hx, hb, hml, hown, hts⟩ (hM _ _ _ hK rfl rfl) ⟨callB_of np hts (xgood hcode) rfl rfl rfl (hts _ hini) (hts _ hlk) hyd hroom, hy1, hts _ hin⟩ ⟨xblind, fun U hU hW => ⟨rfl, by rw [hU]; exact hR, hI.warm hW⟩⟩ rfl r3 hl.1 r2 (lv_room h2) hd ⟨by omega, by omega⟩)
theorem xo_callIN {host : String} (hM : xM G l y cc nL none R C) (hd : decode M.1 pc = .ok (.invokespecial index, 3)) (hcode : Cond.code y cc nL none ∈ xws) (hlk : Cond.methodLinkNest M.2.1 index y host ∈ xnw) (hin : Cond.instanceMethod y ∈ xws) (hini : Cond.initialized y.cls ∈ xws) (hy1 : y.name = "<init>")
    (hyd : y.cls ≠ "java/lang/invoke/MethodHandle" ∧ y.cls ≠ "java/lang/invoke/VarHandle" ∧ (parseMethodDescriptor y.desc).map (fun d => d.parameters.length) = some np) (hroom : R.frames + 1 ≤ M.2.2.2.2.2.frames ∧ 8 + (nL + 11) + R.locals ≤ M.2.2.2.2.2.locals)
    (h : xW G l M X P (pc + 3) k) : xW G l M X P pc (x_calli C (np + 1) R.cells R.slots k) := by
  intro p e s m args below meth c Cx lv st S H locs cells slots ls hK hl hR hS hc hs
  obtain ⟨⟨b, hb1⟩, h1, h2, h3, h4, hK⟩ := hK
  obtain ⟨hx, hb, hml, hown, hts, -, -, -, hI, -, -⟩ := id Cx
  obtain ⟨r1, r2, r3⟩ := xrecv h1 hb1
  rw [r1] at hK
  refine xcall_goes Cx hl hS hc hs h3 h4 h (va_runIN (n := np) (As := (st.take np).reverse) (b := b) ⟨hx, hb, hml, hown, hts⟩ (hM _ _ _ hK rfl rfl) ⟨va_cnB np hts (xgood hcode) rfl rfl rfl (hI.2.1 _ hlk) (hts _ hini) hyd hroom, hy1, hts _ hin⟩ ⟨xblind, fun U hU hW => ⟨rfl, by rw [hU]; exact hR, hI.warm hW⟩⟩ rfl r3 hl.1 r2 (lv_room h2) hd ⟨by omega, by omega⟩)
/-- Object's constructor -/
def x_oinit (k : xK) : xK := fun lv st S => match st with
  | [.ref _] => k lv [] S
  | _ => False
theorem xo_oinit (hd : decode M.1 pc = .ok (.invokespecial index, 3)) (hlk : Cond.methodLink M.2.1 index objectInit ∈ xws) (hin : Cond.instanceMethod objectInit ∈ xws) (hcode : Cond.code objectInit ⟨#[0xb1]⟩ 1 none ∈ xws) (hroom : 1 ≤ M.2.2.2.2.2.frames ∧ 12 ≤ M.2.2.2.2.2.locals) (h : xW G l M X P (pc + 3) k) : xW G l M X P pc (x_oinit k) := by
  intro p e s m args below meth c C lv st S H locs cells slots ls hK hl hR hS hc hs
  unfold x_oinit at hK
  split at hK
  · rename_i a
    have hm : 2 * (F0 m pc ls [Value.ref a]).monitorRoom + (([] : List Value).map fun v => v.category).sum ≤ 0 := by simp [JFrame.monitorRoom]
    exact W.objInit C.1 C.2.1 C.2.2.2.1 (C.2.2.2.2.1 _ hlk) (C.2.2.2.2.1 _ hin) (C.2.2.2.2.1 _ hcode) rfl (by rw [C.2.2.1]; exact hl.1) rfl hd hroom.1 (by omega) (h p e s m args below meth c C _ _ S H locs cells slots ls hK hl hR hS hc hs)
  · exact hK.elim
end XL
