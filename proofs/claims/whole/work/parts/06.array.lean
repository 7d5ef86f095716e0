/-! arrays: t = 0 int, 1 byte, 2 long, 3 references -/
section XA
variable {G : xG} {l : Launch} {M : xMd} {X : Array Value → State → Prop} {P : xP} {pc : Nat} {k : xK}
def x_iald (k : xK) : xK := fun lv st S => match st with
  | .int i :: .ref a :: r => (match S.1 a with
    | some (.inl (0, n, .inl f)) => vp_in i n ∧ k lv (.int (f i.toNatClampNeg) :: r) S
    | _ => False)
  | _ => False
def x_bald (k : xK) : xK := fun lv st S => match st with
  | .int i :: .ref a :: r => (match S.1 a with
    | some (.inl (1, n, .inl f)) => vp_in i n ∧ k lv (.int (f i.toNatClampNeg) :: r) S
    | _ => False)
  | _ => False
def x_lald (k : xK) : xK := fun lv st S => match st with
  | .int i :: .ref a :: r => (match S.1 a with
    | some (.inl (2, n, .inr (.inl f))) => vp_in i n ∧ k lv (.long (f i.toNatClampNeg) :: r) S
    | _ => False)
  | _ => False
def x_aald (k : xK) : xK := fun lv st S => match st with
  | .int i :: .ref a :: r => (match S.1 a with
    | some (.inl (3, n, .inr (.inr (.inr (.inr f))))) => vp_in i n ∧ k lv (va_rf (f i.toNatClampNeg) :: r) S
    | _ => False)
  | _ => False
def x_iast (k : xK) : xK := fun lv st S => match st with
  | .int x :: .int i :: .ref a :: r => (match S.1 a with
    | some (.inl (0, n, .inl f)) => vp_in i n ∧ k lv r (xup S.1 a (.inl (0, n, .inl (upd f i.toNatClampNeg x))), S.2)
    | _ => False)
  | _ => False
def x_bast (k : xK) : xK := fun lv st S => match st with
  | .int x :: .int i :: .ref a :: r => (match S.1 a with
    | some (.inl (1, n, .inl f)) => vp_in i n ∧ k lv r (xup S.1 a (.inl (1, n, .inl (upd f i.toNatClampNeg (vp_nar .byte x)))), S.2)
    | _ => False)
  | _ => False
def x_last (k : xK) : xK := fun lv st S => match st with
  | .long x :: .int i :: .ref a :: r => (match S.1 a with
    | some (.inl (2, n, .inr (.inl f))) => vp_in i n ∧ k lv r (xup S.1 a (.inl (2, n, .inr (.inl (vp_updL f i.toNatClampNeg x)))), S.2)
    | _ => False)
  | _ => False
def x_alen (k : xK) : xK := fun lv st S => match st with
  | .ref a :: r => (match S.1 a with
    | some (.inl (t, n, _)) => (t ≤ 4 ∨ t = 6 ∨ t = 7) ∧ k lv (.int (Int32.ofNat n) :: r) S
    | _ => False)
  | _ => False
theorem xP1 {S : xS} {H : Heap} {a t : Nat} {x : vp_A} (hR : xRep G S H) (ea : S.1 a = some (.inl (t, x))) (nt : Nat.ble 4 t = false) : t < 4 ∧ va_P G.1 vwCl [(a, .inl (G.2.1 t, x))] H := by
  obtain ⟨g1, g2⟩ := (hR.2.2.1 a _ ea nt).2
  refine ⟨g1, fun j q hj => ?_⟩
  obtain ⟨rfl, rfl⟩ : j = 0 ∧ q = (a, .inl (G.2.1 t, x)) := by
    cases j with
    | zero => exact ⟨rfl, by cases hj; rfl⟩
    | succ j => cases hj
  exact g2
theorem xo_iald (hd : decode M.1 pc = .ok (.iaload, 1)) (h : xW G l M X P (pc + 1) k) : xW G l M X P pc (x_iald k) := by
  intro p e s m args below meth c C lv st S H locs cells slots ls hK hl hR hS hc hs
  unfold x_iald at hK
  split at hK
  · split at hK
    · rename_i i a r _ n f ea
      exact va_iald C.1 C.2.1 C.2.2.2.2.2.2.2.2.1.1 (xP1 hR ea rfl).2 0 0 rfl rfl hK.1 hd (h p e s m args below meth c C _ _ S H locs cells slots ls hK.2 hl hR hS hc hs)
    · exact hK.elim
  · exact hK.elim
theorem xo_bald (hd : decode M.1 pc = .ok (.baload, 1)) (h : xW G l M X P (pc + 1) k) : xW G l M X P pc (x_bald k) := by
  intro p e s m args below meth c C lv st S H locs cells slots ls hK hl hR hS hc hs
  unfold x_bald at hK
  split at hK
  · split at hK
    · rename_i i a r _ n f ea
      exact va_bald C.1 C.2.1 C.2.2.2.2.2.2.2.2.1.1 (xP1 hR ea rfl).2 0 1 rfl rfl hK.1 hd (h p e s m args below meth c C _ _ S H locs cells slots ls hK.2 hl hR hS hc hs)
    · exact hK.elim
  · exact hK.elim
theorem xo_lald (hd : decode M.1 pc = .ok (.laload, 1)) (h : xW G l M X P (pc + 1) k) : xW G l M X P pc (x_lald k) := by
  intro p e s m args below meth c C lv st S H locs cells slots ls hK hl hR hS hc hs
  unfold x_lald at hK
  split at hK
  · split at hK
    · rename_i i a r _ n f ea
      exact va_lald C.1 C.2.1 C.2.2.2.2.2.2.2.2.1.1 (xP1 hR ea rfl).2 0 2 rfl rfl hK.1 hd (h p e s m args below meth c C _ _ S H locs cells slots ls hK.2 hl hR hS hc hs)
    · exact hK.elim
  · exact hK.elim
theorem xo_aald (hd : decode M.1 pc = .ok (.aaload, 1)) (h : xW G l M X P (pc + 1) k) : xW G l M X P pc (x_aald k) := by
  intro p e s m args below meth c C lv st S H locs cells slots ls hK hl hR hS hc hs
  unfold x_aald at hK
  split at hK
  · split at hK
    · rename_i i a r _ n f ea
      exact va_aldq C.1 C.2.1 C.2.2.2.2.2.2.2.2.1.1 (xP1 hR ea rfl).2 0 3 rfl rfl hK.1 hd (h p e s m args below meth c C _ _ S H locs cells slots ls hK.2 hl hR hS hc hs)
    · exact hK.elim
  · exact hK.elim
theorem xkept {S : xS} {H : Heap} {s : State} {locs : List Loc} (hR : xRep G S H) (hS : va_S (xA G) s.heap H locs) (hz : G.2.2.1 ≤ s.heap.size) : ∀ a : Nat, a < G.2.2.2.1.size → ¬ xA G a → s.heap[a]? = G.2.2.2.1[a]? :=
  fun a _ na => (hS.2.1 a (Nat.lt_of_lt_of_le (Nat.not_le.mp na) hz) na).symm.trans (hR.2.2.2.1 a (Nat.not_le.mp na))
theorem xkc_inv {mi i t n : Nat} {d : (Nat → Int32) ⊕ (Nat → Int64) ⊕ (Nat → UInt32) ⊕ (Nat → UInt64) ⊕ (Nat → Option Nat)} (h : xkc mi i = some (.inl (t, n, d))) : (t = 5 ∧ i < 34 ∧ n = (xsB i).length ∧ d = .inl (fun j => (xsB i).getD j 0)) ∨ (t = 7 ∧ (∃ k, k < 34 ∧ i = 40 + k ∧ n = (xsB k).length ∧ d = .inl (fun j => (xsB k).getD j 0))) ∨ (t = 4 ∧ i = 80 ∧ n = 19 ∧ d = .inr (.inl (fun j => xten.getD j 0))) ∨ (t = 6 ∧ i = 81 ∧ n = 0 ∧ d = .inr (.inr (.inr (.inr (fun _ => none))))) ∨ (t = 9 ∧ i = 82 ∧ d = .inr (.inr (.inr (.inr (fun _ => some mi))))) := by
  unfold xkc at h
  split at h
  · rename_i hi
    cases h
    exact Or.inl ⟨rfl, hi, rfl, rfl⟩
  · split at h
    · rename_i hi
      cases h
      exact Or.inr (Or.inl ⟨rfl, i - 40, by omega, by omega, rfl, rfl⟩)
    · split at h
      · rename_i hi
        cases h
        exact Or.inr (Or.inr (Or.inl ⟨rfl, hi, rfl, rfl⟩))
      · split at h
        · rename_i hi
          cases h
          exact Or.inr (Or.inr (Or.inr (Or.inl ⟨rfl, hi, rfl, rfl⟩)))
        · split at h
          · rename_i hi
            cases h
            exact Or.inr (Or.inr (Or.inr (Or.inr ⟨rfl, hi, rfl⟩)))
          · cases h
theorem xo_alen (hd : decode M.1 pc = .ok (.arraylength, 1)) (h : xW G l M X P (pc + 1) k) : xW G l M X P pc (x_alen k) := by
  intro p e s m args below meth c C lv st S H locs cells slots ls hK hl hR hS hc hs
  unfold x_alen at hK
  split at hK
  · split at hK
    · rename_i a r _ t n x ea
      obtain ⟨ht, hK⟩ := hK
      have hk := xkept hR hS C.2.2.2.2.2.2.2.2.2.2
      obtain ⟨z1, z2, z3, z4, z5, z6, z7, z8, z9⟩ := C.2.2.2.2.2.2.2.2.1.2.2
      have go := h p e s m args below meth c C _ _ S H locs cells slots ls hK hl hR hS hc hs
      rcases Nat.lt_or_ge t 4 with q | q
      · have qb : Nat.ble 4 t = false := by
          cases hb : Nat.ble 4 t with
          | false => rfl
          | true => have := Nat.le_of_ble_eq_true hb; omega
        exact va_alen C.1 C.2.1 C.2.2.2.2.2.2.2.2.1.1 (xP1 hR ea qb).2 0 t rfl (xtys_at G q) rfl hd go
      · obtain ⟨i, hi, rfl⟩ := hR.2.2.2.2.2 a _ ea (Nat.ble_eq_true_of_le q)
        rcases xkc_inv hi with ⟨rfl, -⟩ | ⟨rfl, k, k1, rfl, rfl, rfl⟩ | ⟨rfl, rfl, rfl, rfl⟩ | ⟨rfl, rfl, rfl, rfl⟩ | ⟨rfl, -⟩
        · omega
        · exact va_tlen C.1 C.2.1 ((z2 k k1).2.2.2.kept hk) hS rfl hd go
        · exact va_tlen C.1 C.2.1 (z6.kept hk) hS rfl hd go
        · exact va_tlen C.1 C.2.1 (z8.kept hk) hS rfl hd go
        · omega
    · exact hK.elim
  · exact hK.elim
theorem xo_iast (hd : decode M.1 pc = .ok (.iastore, 1)) (h : xW G l M X P (pc + 1) k) : xW G l M X P pc (x_iast k) := by
  intro p e s m args below meth c C lv st S H locs cells slots ls hK hl hR hS hc hs
  unfold x_iast at hK
  split at hK
  · split at hK
    · rename_i x i a r _ n f ea
      refine W.iast C.1 C.2.1 (hR.2.2.1 a _ ea rfl).2.2 ((C.2.2.2.2.2.2.2.2.1.1.2 0 _ rfl).1 n (fun j => .int (f j))) (fun q => by cases q) (by show ¬ (i < 0 ∨ (arrV _ _ _).slots.size ≤ _); rw [arrV_size]; exact hK.1) rfl rfl hd fun H1 e1 z oq => ?_
      refine h p e s m args below meth c C _ _ _ H1 _ cells slots ls hK.2 hl (hR.put ea z oq ⟨(by show (0 : Nat) < 4; decide), ?_⟩ rfl rfl) (hS.put z oq (hR.2.2.1 a _ ea rfl).1) hc hs
      show H1[a]? = some (vp_cell _ _)
      rw [e1, vp_cell_i, vp_cell_i, arrV_store]
      congr 2
      funext q
      by_cases hq : q = i.toNatClampNeg
      · subst hq
        simp [updV, upd]
      · simp [updV, upd, hq]
    · exact hK.elim
  · exact hK.elim
theorem xo_bast (hd : decode M.1 pc = .ok (.bastore, 1)) (h : xW G l M X P (pc + 1) k) : xW G l M X P pc (x_bast k) := by
  intro p e s m args below meth c C lv st S H locs cells slots ls hK hl hR hS hc hs
  unfold x_bast at hK
  split at hK
  · split at hK
    · rename_i x i a r _ n f ea
      refine W.bast C.1 C.2.1 (hR.2.2.1 a _ ea rfl).2.2 ((C.2.2.2.2.2.2.2.2.1.1.2 1 _ rfl).1 n (fun j => .int (f j))) (fun q => by cases q) (by show ¬ (i < 0 ∨ (arrV _ _ _).slots.size ≤ _); rw [arrV_size]; exact hK.1) rfl rfl hd fun H1 e1 z oq => ?_
      refine h p e s m args below meth c C _ _ _ H1 _ cells slots ls hK.2 hl (hR.put ea z oq ⟨(by show (1 : Nat) < 4; decide), ?_⟩ rfl rfl) (hS.put z oq (hR.2.2.1 a _ ea rfl).1) hc hs
      show H1[a]? = some (vp_cell _ _)
      rw [e1, vp_cell_i, vp_cell_i, arrV_store]
      congr 2
      funext q
      by_cases hq : q = i.toNatClampNeg
      · subst hq
        simp [updV, upd, vp_nar]
        try rfl
      · simp [updV, upd, hq]
    · exact hK.elim
  · exact hK.elim
theorem xo_last (hd : decode M.1 pc = .ok (.lastore, 1)) (h : xW G l M X P (pc + 1) k) : xW G l M X P pc (x_last k) := by
  intro p e s m args below meth c C lv st S H locs cells slots ls hK hl hR hS hc hs
  unfold x_last at hK
  split at hK
  · split at hK
    · rename_i x i a r _ n f ea
      refine W.last C.1 C.2.1 (hR.2.2.1 a _ ea rfl).2.2 ((C.2.2.2.2.2.2.2.2.1.1.2 2 _ rfl).1 n (fun j => .long (f j))) (fun q => by cases q) (by show ¬ (i < 0 ∨ (arrV _ _ _).slots.size ≤ _); rw [arrV_size]; exact hK.1) rfl rfl hd fun H1 e1 z oq => ?_
      refine h p e s m args below meth c C _ _ _ H1 _ cells slots ls hK.2 hl (hR.put ea z oq ⟨(by show (2 : Nat) < 4; decide), ?_⟩ rfl rfl) (hS.put z oq (hR.2.2.1 a _ ea rfl).1) hc hs
      show H1[a]? = some (vp_cell _ _)
      rw [e1, vp_cell_l, vp_cell_l, arrV_store]
      congr 2
      funext q
      by_cases hq : q = i.toNatClampNeg
      · subst hq
        simp [updV, vp_updL]
      · simp [updV, vp_updL, hq]
    · exact hK.elim
  · exact hK.elim
/-- newarray of n places that are 0 -/
def x_newi (k : xK) : xK := fun lv st S => match st with
  | .int n :: r => ¬ n < 0 ∧ n.toNatClampNeg ≤ 100000 ∧ 1 ≤ S.2.2.1 ∧ n.toNatClampNeg ≤ S.2.2.2 ∧ k lv (.ref S.2.1 :: r) (xup S.1 S.2.1 (.inl (0, n.toNatClampNeg, .inl (fun _ => 0))), S.2.1 + 1, S.2.2.1 - 1, S.2.2.2 - n.toNatClampNeg)
  | _ => False
def x_newb (k : xK) : xK := fun lv st S => match st with
  | .int n :: r => ¬ n < 0 ∧ n.toNatClampNeg ≤ 100000 ∧ 1 ≤ S.2.2.1 ∧ n.toNatClampNeg ≤ S.2.2.2 ∧ k lv (.ref S.2.1 :: r) (xup S.1 S.2.1 (.inl (1, n.toNatClampNeg, .inl (fun _ => 0))), S.2.1 + 1, S.2.2.1 - 1, S.2.2.2 - n.toNatClampNeg)
  | _ => False
def x_newl (k : xK) : xK := fun lv st S => match st with
  | .int n :: r => ¬ n < 0 ∧ n.toNatClampNeg ≤ 100000 ∧ 1 ≤ S.2.2.1 ∧ n.toNatClampNeg ≤ S.2.2.2 ∧ k lv (.ref S.2.1 :: r) (xup S.1 S.2.1 (.inl (2, n.toNatClampNeg, .inr (.inl (fun _ => 0)))), S.2.1 + 1, S.2.2.1 - 1, S.2.2.2 - n.toNatClampNeg)
  | _ => False
theorem xo_newi (hw : Cond.arrayClass .int ∈ xws) (hd : decode M.1 pc = .ok (.newarray .int, 2)) (h : xW G l M X P (pc + 2) k) : xW G l M X P pc (x_newi k) := by
  intro p e s m args below meth c C lv st S H locs cells slots ls hK hl hR hS hc hs
  unfold x_newi at hK
  split at hK
  · rename_i n r
    obtain ⟨hn, hN, hb1, hb2, hK⟩ := hK
    refine va_newaK (atype := .int) C.1 C.2.1 (C.2.2.2.2.1 _ hw) rfl hd rfl hn rfl (by show _ * 4 ≤ _; omega) (by omega) (by omega) rfl fun H1 cA e1 z1 o1 hAr hNm => ?_
    have hcA : cA = G.2.1 0 := Option.some.inj (hNm.symm.trans (C.2.2.2.2.2.2.2.2.1.1.2 0 _ rfl).2)
    subst hcA
    rw [hR.1] at hK
    exact h p e s m args below meth c C _ _ _ H1 locs (cells + 1) (slots + n.toNatClampNeg) ls hK hl (by rw [← hR.1]; exact hR.push (c' := .inl (0, n.toNatClampNeg, .inl (fun _ => 0))) z1 o1 ⟨(by show (0 : Nat) < 4; decide), e1⟩ rfl) (xS_push hS z1 o1) (by show cells + 1 + (S.2.2.1 - 1) ≤ _; omega) (by show slots + _ + (S.2.2.2 - _) ≤ _; omega)
  · exact hK.elim
theorem xo_newb (hw : Cond.arrayClass .byte ∈ xws) (hd : decode M.1 pc = .ok (.newarray .byte, 2)) (h : xW G l M X P (pc + 2) k) : xW G l M X P pc (x_newb k) := by
  intro p e s m args below meth c C lv st S H locs cells slots ls hK hl hR hS hc hs
  unfold x_newb at hK
  split at hK
  · rename_i n r
    obtain ⟨hn, hN, hb1, hb2, hK⟩ := hK
    refine va_newaK (atype := .byte) C.1 C.2.1 (C.2.2.2.2.1 _ hw) rfl hd rfl hn rfl (by show _ * 1 ≤ _; omega) (by omega) (by omega) rfl fun H1 cA e1 z1 o1 hAr hNm => ?_
    have hcA : cA = G.2.1 1 := Option.some.inj (hNm.symm.trans (C.2.2.2.2.2.2.2.2.1.1.2 1 _ rfl).2)
    subst hcA
    rw [hR.1] at hK
    exact h p e s m args below meth c C _ _ _ H1 locs (cells + 1) (slots + n.toNatClampNeg) ls hK hl (by rw [← hR.1]; exact hR.push (c' := .inl (1, n.toNatClampNeg, .inl (fun _ => 0))) z1 o1 ⟨(by show (1 : Nat) < 4; decide), e1⟩ rfl) (xS_push hS z1 o1) (by show cells + 1 + (S.2.2.1 - 1) ≤ _; omega) (by show slots + _ + (S.2.2.2 - _) ≤ _; omega)
  · exact hK.elim
theorem xo_newl (hw : Cond.arrayClass .long ∈ xws) (hd : decode M.1 pc = .ok (.newarray .long, 2)) (h : xW G l M X P (pc + 2) k) : xW G l M X P pc (x_newl k) := by
  intro p e s m args below meth c C lv st S H locs cells slots ls hK hl hR hS hc hs
  unfold x_newl at hK
  split at hK
  · rename_i n r
    obtain ⟨hn, hN, hb1, hb2, hK⟩ := hK
    refine va_newaK (atype := .long) C.1 C.2.1 (C.2.2.2.2.1 _ hw) rfl hd rfl hn rfl (by show _ * 8 ≤ _; omega) (by omega) (by omega) rfl fun H1 cA e1 z1 o1 hAr hNm => ?_
    have hcA : cA = G.2.1 2 := Option.some.inj (hNm.symm.trans (C.2.2.2.2.2.2.2.2.1.1.2 2 _ rfl).2)
    subst hcA
    rw [hR.1] at hK
    exact h p e s m args below meth c C _ _ _ H1 locs (cells + 1) (slots + n.toNatClampNeg) ls hK hl (by rw [← hR.1]; exact hR.push (c' := .inl (2, n.toNatClampNeg, .inr (.inl (fun _ => 0)))) z1 o1 ⟨(by show (2 : Nat) < 4; decide), e1⟩ rfl) (xS_push hS z1 o1) (by show cells + 1 + (S.2.2.1 - 1) ≤ _; omega) (by show slots + _ + (S.2.2.2 - _) ≤ _; omega)
  · exact hK.elim
end XA
