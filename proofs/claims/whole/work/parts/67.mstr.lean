/-! String constants -/
def x_str (i : Nat) (k : xK) : xK := fun lv st S => ∀ a, S.1 a = some (.inl (5, (xsB i).length, .inl (fun j => (xsB i).getD j 0))) → k lv (.ref a :: st) S
section XSTR
variable {G : xG} {l : Launch} {M : xMd} {X : Array Value → State → Prop} {P : xP} {pc : Nat} {k : xK}
theorem xkc_str {mi i : Nat} (h : i < 34) : xkc mi i = some (.inl (5, (xsB i).length, .inl (fun j => (xsB i).getD j 0))) := by
  unfold xkc
  rw [if_pos h]
theorem xo_str {i index : Nat} (hi : i < 34) (ho : xsO i = M.2.1) (hk : xsK i = index) (hd : decode M.1 pc = .ok (.ldc index, 2)) (h : xW G l M X P (pc + 2) k) : xW G l M X P pc (x_str i k) := by
  intro p e s m args below meth c C lv st S H locs cells slots ls hK hl hR hS hc hs
  obtain ⟨z1, -⟩ := C.2.2.2.2.2.2.2.2.1.2.2
  have z := z1 i hi
  rw [ho, hk] at z
  exact va_ldcS C.1 C.2.1 C.2.2.2.1 z hd (h p e s m args below meth c C _ _ S H locs cells slots ls (hK _ (hR.2.2.2.2.1 i _ (xkc_str hi)).1) hl hR hS hc hs)
theorem st_ldcw {p : Program} {e : Env} {R : Room} {s : State} {m : MethodId} {args : Array Value} {below : List Frame} {meth : Method} {c : Code} {H : Heap} {locs : List Loc} {cells slots : Nat} {Q : State → Prop} {cc : ByteArray} {ls : Array Slot} {rest : List Value} (hexec : p.tables.exec = Jvm.exec) (hb : c.code = cc) {own tx : String} {index q : Nat} (hown : s.vm.findClass own = some m.cls) (hZ : vk_R own index tx q s) (hdg : decode cc pc = .ok (.ldc_w index, 3)) (k : W p l e R s m args below meth c H locs cells slots Q (F0 m (pc + 3) ls (.ref q :: rest))) : W p l e R s m args below meth c H locs cells slots Q (F0 m pc ls rest) := by
  intro T hT X
  obtain ⟨t, a1, b1⟩ := k T hT X
  refine ⟨t, ?_, b1⟩
  obtain ⟨kl, cf, ci, ad, e1, e2, e3, -, e4, e5⟩ := Cond.stringRef_spec hown hZ.1
  have eq : ad = q := by
    have := hZ.2.symm.trans e5
    cases this
    rfl
  subst eq
  obtain ⟨kl', f1, f2⟩ := X.warmed.alike.2.2 _ _ e1
  have f3 : kl'.resolved[index]? = some (some (.string ad)) := by
    rcases X.warmed.entry e1 f1 index with y | ⟨y, -⟩
    · rw [y]
      exact e4
    · rw [e4] at y
      cases y
  have hdg' : decode c.code (F0 m pc ls rest).pc = .ok (.ldc_w index, 3) := by rw [hb]; exact hdg
  jvm_step X.here [hexec, hdg', ldc_w.wp_string (e := e) (s := T) (f := F0 m pc ls rest) X.here.top f1 (by rw [f2]; exact e2) e3 f3]
  exact a1
theorem xo_strW {i index : Nat} (hi : i < 34) (ho : xsO i = M.2.1) (hk : xsK i = index) (hd : decode M.1 pc = .ok (.ldc_w index, 3)) (h : xW G l M X P (pc + 3) k) : xW G l M X P pc (x_str i k) := by
  intro p e s m args below meth c C lv st S H locs cells slots ls hK hl hR hS hc hs
  obtain ⟨z1, -⟩ := C.2.2.2.2.2.2.2.2.1.2.2
  have z := z1 i hi
  rw [ho, hk] at z
  exact st_ldcw C.1 C.2.1 C.2.2.2.1 z hd (h p e s m args below meth c C _ _ S H locs cells slots ls (hK _ (hR.2.2.2.2.1 i _ (xkc_str hi)).1) hl hR hS hc hs)
end XSTR
