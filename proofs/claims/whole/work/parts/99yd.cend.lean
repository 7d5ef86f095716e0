/-! the law's end -/
def KR_L : xK := fun _ st _ => st = [.int 1]
abbrev P_L : xP := fun below args s => lw_Z below args s
theorem hR_L (G : xG) (l : Launch) {b N : Nat} {xs : Nat → Int32} : xW G l m_L_law (lX G b N xs) P_L 856 KR_L := by
  intro p e s m args below meth c C lv st S H locs cells slots ls hK hl hR hS hc hs
  obtain ⟨hX, hbl, hbA, rfl, hsz⟩ := C.2.2.2.2.2.2.2.2.2.1
  have e1 : st = [.int 1] := hK
  subst e1
  refine va_forget (fun q hq => ?_) (W.widen (k := 600000) (n := 7302250) ?_ ?_ (lw_ret C.1 C.2.1 C.2.2.2.2.2.1 C.2.2.2.2.2.2.1 dL_law_856))
  · have := hS.2.2 q hq
    rw [hsz]
    exact this
  · exact Nat.le_trans (Nat.le_add_right _ _) hc
  · exact Nat.le_trans (Nat.le_add_right _ _) hs
