/-! what the tables say of every class of the list -/
def xclOk (q : vw_C) (ty0 : Nat → FieldType) : Prop := (∀ w ∈ u_ws q.1 q.2.1 q.2.2, w ∈ xws) ∧ (∀ k, k < q.2.2 → parseFieldDescriptor (q.2.1 k).2.2.1 = some (ty0 k)) ∧ ∀ a, a < q.2.2 → ∀ b, b < q.2.2 → a ≠ b → (q.2.1 a).2.1 ≠ (q.2.1 b).2.1
section XB
variable {G : xG} {S : xS} {H H1 : Heap} {s : State} {locs : List Loc}
/-- a cell of the world changes -/
theorem xRep.put {a : Nat} {c c' : xE} (hR : xRep G S H) (ha : S.1 a = some c) (z : H1.size = H.size) (oq : ∀ q : Nat, q ≠ a → H1[q]? = H[q]?) (hc : xat G a c' H1) (n1 : xcn c = false) (n2 : xcn c' = false) : xRep G (xup S.1 a c', S.2) H1 := by
  obtain ⟨h1, h2, h3, h4, h5, h6⟩ := hR
  refine ⟨h1.trans z.symm, by rw [z]; exact h2, fun q d hq nd => ?_, fun q hq => ?_, fun i k hk => ?_, fun q d hq nd => ?_⟩
  · by_cases e : q = a
    · subst e
      rw [show (xup S.1 q c', S.2).1 q = some c' from if_pos rfl] at hq
      cases hq
      exact ⟨(h3 q c ha n1).1, hc⟩
    · rw [show (xup S.1 a c', S.2).1 q = S.1 q from if_neg e] at hq
      exact ⟨(h3 q d hq nd).1, xat_kept (h3 q d hq nd).2 (oq q e)⟩
  · rw [oq q (fun e => by have := (h3 a c ha n1).1; omega)]
    exact h4 q hq
  · obtain ⟨g1, g2⟩ := h5 i k hk
    refine ⟨?_, g2⟩
    rw [show (xup S.1 a c', S.2).1 (G.2.2.2.2 i) = S.1 (G.2.2.2.2 i) from if_neg (fun e => by have := (h3 a c ha n1).1; omega)]
    exact g1
  · by_cases e : q = a
    · subst e
      rw [show (xup S.1 q c', S.2).1 q = some c' from if_pos rfl] at hq
      cases hq
      rw [n2] at nd
      cases nd
    · rw [show (xup S.1 a c', S.2).1 q = S.1 q from if_neg e] at hq
      exact h6 q d hq nd
/-- a cell comes to the world -/
theorem xRep.push {c' : xE} (hR : xRep G S H) (z : H1.size = H.size + 1) (oq : ∀ q : Nat, q < H.size → H1[q]? = H[q]?) (hc : xat G H.size c' H1) (n2 : xcn c' = false) {bc bs : Nat} : xRep G (xup S.1 S.2.1 c', S.2.1 + 1, bc, bs) H1 := by
  obtain ⟨h1, h2, h3, h4, h5, h6⟩ := hR
  refine ⟨by show S.2.1 + 1 = _; rw [z, h1], by omega, fun q d hq nd => ?_, fun q hq => ?_, fun i k hk => ?_, fun q d hq nd => ?_⟩
  · by_cases e : q = S.2.1
    · rw [show (xup S.1 S.2.1 c', S.2.1 + 1, bc, bs).1 q = some c' from if_pos e] at hq
      cases hq
      rw [e, h1]
      exact ⟨h2, hc⟩
    · rw [show (xup S.1 S.2.1 c', S.2.1 + 1, bc, bs).1 q = S.1 q from if_neg e] at hq
      obtain ⟨g1, g2⟩ := h3 q d hq nd
      exact ⟨g1, xat_kept g2 (oq q (xat_lt g2))⟩
  · rw [oq q (by omega)]
    exact h4 q hq
  · obtain ⟨g1, g2⟩ := h5 i k hk
    refine ⟨?_, g2⟩
    rw [show (xup S.1 S.2.1 c', S.2.1 + 1, bc, bs).1 (G.2.2.2.2 i) = S.1 (G.2.2.2.2 i) from if_neg (fun e => by omega)]
    exact g1
  · by_cases e : q = S.2.1
    · rw [show (xup S.1 S.2.1 c', S.2.1 + 1, bc, bs).1 q = some c' from if_pos e] at hq
      cases hq
      rw [n2] at nd
      cases nd
    · rw [show (xup S.1 S.2.1 c', S.2.1 + 1, bc, bs).1 q = S.1 q from if_neg e] at hq
      exact h6 q d hq nd
theorem xS_push (hS : va_S (xA G) s.heap H locs) (z : H1.size = H.size + 1) (oq : ∀ q : Nat, q < H.size → H1[q]? = H[q]?) : va_S (xA G) s.heap H1 locs :=
  ⟨by have := hS.1; omega, fun q h1 h2 => (oq q (Nat.lt_of_lt_of_le h1 hS.1)).trans (hS.2.1 q h1 h2), hS.2.2⟩
end XB
/-! fields -/
def x_get (ci i : Nat) (k : xK) : xK := fun lv st S => match st with
  | .ref a :: r => (match S.1 a with
    | some (.inr (cj, fs)) => cj = ci ∧ (match fs[i]? with
      | some v => k lv (v :: r) S
      | none => False)
    | _ => False)
  | _ => False
theorem x_get_inv {ci i : Nat} {k : xK} {lv : List (Nat × Value)} {st : List Value} {S : xS} (h : x_get ci i k lv st S) : ∃ a r fs v, st = .ref a :: r ∧ S.1 a = some (.inr (ci, fs)) ∧ fs[i]? = some v ∧ k lv (v :: r) S := by
  unfold x_get at h
  split at h
  · rename_i a r
    split at h
    · rename_i cj fs e
      obtain ⟨rfl, h⟩ := h
      split at h
      · rename_i v ev
        exact ⟨a, r, fs, v, rfl, e, ev, h⟩
      · exact h.elim
    · exact h.elim
  · exact h.elim
def x_put (ci i : Nat) (ty : FieldType) (k : xK) : xK := fun lv st S => match st with
  | v :: .ref a :: r => (match S.1 a with
    | some (.inr (cj, fs)) => cj = ci ∧ i < fs.length ∧ narrow ty v = v ∧ fits ty v = true ∧ k lv r (xup S.1 a (.inr (ci, fs.set i v)), S.2)
    | _ => False)
  | _ => False
theorem x_put_inv {ci i : Nat} {ty : FieldType} {k : xK} {lv : List (Nat × Value)} {st : List Value} {S : xS} (h : x_put ci i ty k lv st S) : ∃ v a r fs, st = v :: .ref a :: r ∧ S.1 a = some (.inr (ci, fs)) ∧ i < fs.length ∧ narrow ty v = v ∧ fits ty v = true ∧ k lv r (xup S.1 a (.inr (ci, fs.set i v)), S.2) := by
  unfold x_put at h
  split at h
  · rename_i v a r
    split at h
    · rename_i cj fs e
      obtain ⟨rfl, h⟩ := h
      exact ⟨v, a, r, fs, rfl, e, h⟩
    · exact h.elim
  · exact h.elim
section XF
variable {G : xG} {l : Launch} {M : xMd} {X : Array Value → State → Prop} {P : xP} {pc : Nat} {k : xK} {ci i index : Nat} {Cn : String} {T : u_T} {N : Nat} {ty0 : Nat → FieldType}
theorem xo_get (hq : vwCl[ci]? = some (Cn, T, N)) (ok : xclOk (Cn, T, N) ty0) (hi : i < N) (hd : decode M.1 pc = .ok (.getfield index, 3)) (hw : Cond.fieldLink M.2.1 index (T i).1 (T i).2.1 (T i).2.2.1 ∈ xws) (h : xW G l M X P (pc + 3) k) : xW G l M X P pc (x_get ci i k) := by
  intro p e s m args below meth c C lv st S H locs cells slots ls hK hl hR hS hc hs
  obtain ⟨a, r, fs, v, rfl, ea, ev, hK⟩ := x_get_inv hK
  have hP : va_P G.1 vwCl [(a, .inr (ci, fs))] H := fun j q hj => by
    obtain ⟨rfl, rfl⟩ : j = 0 ∧ q = (a, .inr (ci, fs)) := by
      cases j with
      | zero => exact ⟨rfl, by cases hj; rfl⟩
      | succ j => cases hj
    exact (hR.2.2.1 a _ ea rfl).2
  exact va_get (C := Cn) (T := T) (N := N) C.1 C.2.1 C.2.2.2.2.1 ok.1 C.2.2.2.1 C.2.2.2.2.2.2.2.2.1.1 hP 0 rfl hq i hi (C.2.2.2.2.1 _ hw) (fun _ h9 => h9) ev hd (h p e s m args below meth c C _ _ S H locs cells slots ls hK hl hR hS hc hs)
theorem xo_getS {ref : String} (hq : vwCl[ci]? = some (Cn, T, N)) (ok : xclOk (Cn, T, N) ty0) (hi : i < N) (hd : decode M.1 pc = .ok (.getfield index, 3)) (hw : Cond.fieldLink M.2.1 index ref (T i).2.1 (T i).2.2.1 ∈ xws) (hsm : Cond.sameField ref (T i).1 (T i).2.1 (T i).2.2.1 ∈ xws) (h : xW G l M X P (pc + 3) k) : xW G l M X P pc (x_get ci i k) := by
  intro p e s m args below meth c C lv st S H locs cells slots ls hK hl hR hS hc hs
  obtain ⟨a, r, fs, v, rfl, ea, ev, hK⟩ := x_get_inv hK
  have hP : va_P G.1 vwCl [(a, .inr (ci, fs))] H := fun j q hj => by
    obtain ⟨rfl, rfl⟩ : j = 0 ∧ q = (a, .inr (ci, fs)) := by
      cases j with
      | zero => exact ⟨rfl, by cases hj; rfl⟩
      | succ j => cases hj
    exact (hR.2.2.1 a _ ea rfl).2
  exact va_get (C := Cn) (T := T) (N := N) C.1 C.2.1 C.2.2.2.2.1 ok.1 C.2.2.2.1 C.2.2.2.2.2.2.2.2.1.1 hP 0 rfl hq i hi (C.2.2.2.2.1 _ hw) (u_same (C.2.2.2.2.1 _ hsm)) ev hd (h p e s m args below meth c C _ _ S H locs cells slots ls hK hl hR hS hc hs)
theorem xo_getN {host : String} (hq : vwCl[ci]? = some (Cn, T, N)) (ok : xclOk (Cn, T, N) ty0) (hi : i < N) (hd : decode M.1 pc = .ok (.getfield index, 3)) (hw : Cond.fieldLinkNest M.2.1 index (T i).1 (T i).2.1 (T i).2.2.1 host ∈ xnw) (h : xW G l M X P (pc + 3) k) : xW G l M X P pc (x_get ci i k) := by
  intro p e s m args below meth c C lv st S H locs cells slots ls hK hl hR hS hc hs
  obtain ⟨a, r, fs, v, rfl, ea, ev, hK⟩ := x_get_inv hK
  have hP : va_P G.1 vwCl [(a, .inr (ci, fs))] H := fun j q hj => by
    obtain ⟨rfl, rfl⟩ : j = 0 ∧ q = (a, .inr (ci, fs)) := by
      cases j with
      | zero => exact ⟨rfl, by cases hj; rfl⟩
      | succ j => cases hj
    exact (hR.2.2.1 a _ ea rfl).2
  exact va_getN (C := Cn) (T := T) (N := N) C.1 C.2.1 C.2.2.2.2.1 ok.1 C.2.2.2.1 C.2.2.2.2.2.2.2.2.1.1 hP 0 rfl hq i hi (va_Nw.use rfl (C.2.2.2.2.2.2.2.2.1.2.1 _ hw)) (fun _ h9 => h9) ev hd (h p e s m args below meth c C _ _ S H locs cells slots ls hK hl hR hS hc hs)
/-- what a store into a field leaves, whatever the row -/
theorem xput_rep {S : xS} {H H1 : Heap} {s : State} {a : Nat} {fs : List Value} {cell : Cell} {v : Value} {args : Array Value} (hts : ∀ w ∈ xws, w.before args s = true) (hI : xI G s) (hq : vwCl[ci]? = some (Cn, T, N)) (ok : xclOk (Cn, T, N) ty0) (hi : i < N) (hlen : i < fs.length)
    (hR : xRep G S H) (ha : S.1 a = some (.inr (ci, fs))) (q1 : H[a]? = some cell) (q2 : cell.cls = G.1.1 ci) (q3 : cell.vm = .none) (q4 : ∀ j, j < N → cell.slots[G.1.2 ci j]? = some (vp_V fs j)) (e1 : H1[a]? = some (cell.setSlot (G.1.2 ci i) v)) (z : H1.size = H.size) (oq : ∀ q : Nat, q ≠ a → H1[q]? = H[q]?) : xRep G (xup S.1 a (.inr (ci, fs.set i v)), S.2) H1 := by
  have hap := va_apart (own := Cn) (ci := ci) (N := N) hts ok.1 ty0 ok.2.1 ok.2.2 hI.1 hq
  exact hR.put ha z oq ⟨_, hq, t_OB.to (V := updV (vp_V fs) i v) ⟨_, e1, q2, q3, t_set q4 hap hi v⟩ (fun j _ => vp_updV_set hlen v j)⟩ rfl rfl
theorem xo_put {ty : FieldType} (hq : vwCl[ci]? = some (Cn, T, N)) (ok : xclOk (Cn, T, N) ty0) (hi : i < N) (hty : ty0 i = ty) (hfin : (T i).2.2.2 = false) (hd : decode M.1 pc = .ok (.putfield index, 3)) (hw : Cond.fieldLink M.2.1 index (T i).1 (T i).2.1 (T i).2.2.1 ∈ xws) (h : xW G l M X P (pc + 3) k) : xW G l M X P pc (x_put ci i ty k) := by
  intro p e s m args below meth c C lv st S H locs cells slots ls hK hl hR hS hc hs
  obtain ⟨v, a, r, fs, rfl, ea, hlen, hn, hfit, hK⟩ := x_put_inv hK
  obtain ⟨hx, hb, -, hown, hts, -, -, -, hI, -, -⟩ := id C
  obtain ⟨rr, g1, cell, q1, q2, q3, q4⟩ := (hR.2.2.1 a _ ea rfl).2
  have hr : rr = (Cn, T, N) := Option.some.inj (g1.symm.trans hq)
  subst hr
  obtain ⟨hSl, hfc, kC, hkC, hkind⟩ := hI.1.1 ci _ hq
  obtain ⟨cf, kf, fi, f, hfi, hsl⟩ := hSl i hi
  have hlay := hts _ (ok.1 _ (u_in_lay hi))
  unfold u_lay at hlay
  rw [if_neg (by rw [show (Cn, T, N).2.1 = T from rfl, hfin]; decide)] at hlay
  have hst := (u_facts hfc hkC (u_lays hts ok.1 hi) hfi).1
  have h6 := u_store hfc hkC hkind hlay hfi ((ok.2.1 i hi).trans (by rw [hty])) hn hfit
  refine W.putK hx hb (f := f) ⟨hown, hts _ hw, ⟨_, _, _, hfi⟩, hst⟩ (by rw [q2]; exact h6) q1 q3 (by rw [hsl]; exact k2_hasslot (q4 i hi)) rfl rfl hd fun H' e1 e2 e3 => ?_
  rw [hsl] at e1 ⊢
  exact h p e s m args below meth c C _ _ _ H' _ cells slots ls hK hl (xput_rep hts hI hq ok hi hlen hR ea q1 q2 q3 q4 e1 e2 e3) (hS.put e2 e3 (hR.2.2.1 a _ ea rfl).1) hc hs
theorem xo_putS {ty : FieldType} {ref : String} (hq : vwCl[ci]? = some (Cn, T, N)) (ok : xclOk (Cn, T, N) ty0) (hi : i < N) (hty : ty0 i = ty) (hfin : (T i).2.2.2 = false) (hd : decode M.1 pc = .ok (.putfield index, 3)) (hw : Cond.fieldLink M.2.1 index ref (T i).2.1 (T i).2.2.1 ∈ xws) (hsm : Cond.sameField ref (T i).1 (T i).2.1 (T i).2.2.1 ∈ xws) (h : xW G l M X P (pc + 3) k) : xW G l M X P pc (x_put ci i ty k) := by
  intro p e s m args below meth c C lv st S H locs cells slots ls hK hl hR hS hc hs
  obtain ⟨v, a, r, fs, rfl, ea, hlen, hn, hfit, hK⟩ := x_put_inv hK
  obtain ⟨hx, hb, -, hown, hts, -, -, -, hI, -, -⟩ := id C
  obtain ⟨rr, g1, cell, q1, q2, q3, q4⟩ := (hR.2.2.1 a _ ea rfl).2
  have hr : rr = (Cn, T, N) := Option.some.inj (g1.symm.trans hq)
  subst hr
  obtain ⟨hSl, hfc, kC, hkC, hkind⟩ := hI.1.1 ci _ hq
  obtain ⟨cf, kf, fi, f, hfi, hsl⟩ := hSl i hi
  have hlay := hts _ (ok.1 _ (u_in_lay hi))
  unfold u_lay at hlay
  rw [if_neg (by rw [show (Cn, T, N).2.1 = T from rfl, hfin]; decide)] at hlay
  have hst := (u_facts hfc hkC (u_lays hts ok.1 hi) hfi).1
  have h6 := u_store hfc hkC hkind hlay hfi ((ok.2.1 i hi).trans (by rw [hty])) hn hfit
  refine W.putK hx hb (f := f) ⟨hown, hts _ hw, ⟨_, _, _, u_same (hts _ hsm) _ hfi⟩, hst⟩ (by rw [q2]; exact h6) q1 q3 (by rw [hsl]; exact k2_hasslot (q4 i hi)) rfl rfl hd fun H' e1 e2 e3 => ?_
  rw [hsl] at e1 ⊢
  exact h p e s m args below meth c C _ _ _ H' _ cells slots ls hK hl (xput_rep hts hI hq ok hi hlen hR ea q1 q2 q3 q4 e1 e2 e3) (hS.put e2 e3 (hR.2.2.1 a _ ea rfl).1) hc hs
theorem xo_putN {ty : FieldType} {host : String} (hq : vwCl[ci]? = some (Cn, T, N)) (ok : xclOk (Cn, T, N) ty0) (hi : i < N) (hty : ty0 i = ty) (hfin : (T i).2.2.2 = false) (hd : decode M.1 pc = .ok (.putfield index, 3)) (hw : Cond.fieldLinkNest M.2.1 index (T i).1 (T i).2.1 (T i).2.2.1 host ∈ xnw) (h : xW G l M X P (pc + 3) k) : xW G l M X P pc (x_put ci i ty k) := by
  intro p e s m args below meth c C lv st S H locs cells slots ls hK hl hR hS hc hs
  obtain ⟨v, a, r, fs, rfl, ea, hlen, hn, hfit, hK⟩ := x_put_inv hK
  obtain ⟨hx, hb, -, hown, hts, -, -, -, hI, -, -⟩ := id C
  obtain ⟨rr, g1, cell, q1, q2, q3, q4⟩ := (hR.2.2.1 a _ ea rfl).2
  have hr : rr = (Cn, T, N) := Option.some.inj (g1.symm.trans hq)
  subst hr
  obtain ⟨hSl, hfc, kC, hkC, hkind⟩ := hI.1.1 ci _ hq
  obtain ⟨cf, kf, fi, f, hfi, hsl⟩ := hSl i hi
  have hlay := hts _ (ok.1 _ (u_in_lay hi))
  unfold u_lay at hlay
  rw [if_neg (by rw [show (Cn, T, N).2.1 = T from rfl, hfin]; decide)] at hlay
  have hst := (u_facts hfc hkC (u_lays hts ok.1 hi) hfi).1
  have h6 := u_store hfc hkC hkind hlay hfi ((ok.2.1 i hi).trans (by rw [hty])) hn hfit
  refine va_WputK hx hb (f := f) hown (va_Nw.use rfl (hI.2.1 _ hw)) hfi hst (by rw [q2]; exact h6) q1 q3 (by rw [hsl]; exact k2_hasslot (q4 i hi)) rfl rfl hd fun H' e1 e2 e3 => ?_
  rw [hsl] at e1 ⊢
  exact h p e s m args below meth c C _ _ _ H' _ cells slots ls hK hl (xput_rep hts hI hq ok hi hlen hR ea q1 q2 q3 q4 e1 e2 e3) (hS.put e2 e3 (hR.2.2.1 a _ ea rfl).1) hc hs
theorem xo_putF {ty : FieldType} (hq : vwCl[ci]? = some (Cn, T, N)) (ok : xclOk (Cn, T, N) ty0) (hi : i < N) (hty : ty0 i = ty) (hfin : (T i).2.2.2 = true) (hini : M.2.2.2.2.1 = true) (hdecl : (T i).1 = M.2.1) (hd : decode M.1 pc = .ok (.putfield index, 3)) (hw : Cond.fieldLink M.2.1 index (T i).1 (T i).2.1 (T i).2.2.1 ∈ xws) (h : xW G l M X P (pc + 3) k) : xW G l M X P pc (x_put ci i ty k) := by
  intro p e s m args below meth c C lv st S H locs cells slots ls hK hl hR hS hc hs
  obtain ⟨v, a, r, fs, rfl, ea, hlen, hn, hfit, hK⟩ := x_put_inv hK
  obtain ⟨hx, hb, -, hown, hts, -, -, hnm, hI, -, -⟩ := id C
  obtain ⟨rr, g1, cell, q1, q2, q3, q4⟩ := (hR.2.2.1 a _ ea rfl).2
  have hr : rr = (Cn, T, N) := Option.some.inj (g1.symm.trans hq)
  subst hr
  obtain ⟨hSl, hfc, kC, hkC, hkind⟩ := hI.1.1 ci _ hq
  obtain ⟨cf, kf, fi, f, hfi, hsl⟩ := hSl i hi
  have hlay := hts _ (ok.1 _ (u_in_lay hi))
  unfold u_lay at hlay
  rw [if_pos (show (Cn, T, N).2.1 i |>.2.2.2 = true from hfin)] at hlay
  have hst := (u_facts hfc hkC (u_lays hts ok.1 hi) hfi).1
  have hcf : m.cls = cf := by
    obtain ⟨_, _, c', _, _, _, -, -, hf', -, -, -, hown2, -⟩ := Cond.laysFinal_spec hlay
    have e1 : c' = cf := by have := hfi.symm.trans hf'; simp at this; exact this.1.symm
    rw [hdecl] at hown2
    rw [← e1]; exact Option.some.inj (hown.symm.trans hown2)
  have h6 := u_fits hfc hkC hkind (Or.inr hlay) hfi ((ok.2.1 i hi).trans (by rw [hty])) hn hfit
  refine W.putFinK hx hb hown (hts _ hw) hfi hst hcf (hnm hini) (by rw [q2]; exact h6) q1 q3 (by rw [hsl]; exact k2_hasslot (q4 i hi)) rfl rfl hd fun H' e1 e2 e3 => ?_
  rw [hsl] at e1 ⊢
  exact h p e s m args below meth c C _ _ _ H' _ cells slots ls hK hl (xput_rep hts hI hq ok hi hlen hR ea q1 q2 q3 q4 e1 e2 e3) (hS.put e2 e3 (hR.2.2.1 a _ ea rfl).1) hc hs
/-- new: an object with the defaults of its fields -/
def x_new (ci N : Nat) (fs : List Value) (k : xK) : xK := fun lv st S => 1 ≤ S.2.2.1 ∧ N ≤ S.2.2.2 ∧ k lv (.ref S.2.1 :: st) (xup S.1 S.2.1 (.inr (ci, fs)), S.2.1 + 1, S.2.2.1 - 1, S.2.2.2 - N)
theorem xo_new {fs : List Value} (hq : vwCl[ci]? = some (Cn, T, N)) (ok : xclOk (Cn, T, N) ty0) (hfs : ∀ j, j < N → defaultValue (ty0 j) = vp_V fs j) (hd : decode M.1 pc = .ok (.new index, 3)) (hw : Cond.classLink M.2.1 index Cn ∈ xws) (hw2 : Cond.instantiable Cn N ∈ xws) (hw3 : Cond.initialized Cn ∈ xws) (h : xW G l M X P (pc + 3) k) : xW G l M X P pc (x_new ci N fs k) := by
  intro p e s m args below meth c C lv st S H locs cells slots ls hK hl hR hS hc hs
  obtain ⟨hb1, hb2, hK⟩ := hK
  obtain ⟨hx, hb, -, hown, hts, -, -, -, hI, -, -⟩ := id C
  have hKn := hI.1.1 ci _ hq
  refine W.newcK hx hb hown (hts _ hw) (hts _ hw2) (hts _ hw3) rfl hd (by omega) (by omega) hKn.2.1 rfl fun H1 kC hkC e1 z1 o1 => ?_
  rw [hR.1] at hK
  exact h p e s m args below meth c C _ _ _ H1 locs (cells + 1) (slots + N) ls hK hl (by rw [← hR.1]; exact hR.push (c' := .inr (ci, fs)) z1 o1 ⟨_, hq, (u_born ty0 hts ok.1 hKn hkC e1 ok.2.1).to hfs⟩ rfl) (xS_push hS z1 o1) (by show cells + 1 + (S.2.2.1 - 1) ≤ _; omega) (by show slots + N + (S.2.2.2 - N) ≤ _; omega)
end XF
