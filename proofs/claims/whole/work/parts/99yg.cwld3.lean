/-! the classes known at the law's entry -/
theorem wl_K {s : State} {b : Nat} (hts : ∀ w ∈ lw_tbl, w.before #[Value.ref b] s = true) : ∃ (dC : Nat → ClassId) (dI : Nat → Nat → Nat), ∀ (k : Nat) (q : vw_C), vwCl[k]? = some q → u_Kn s q.1 q.2.1 q.2.2 (dC k) (dI k) := by
  have hx : ∀ w ∈ xws, w.before #[Value.ref b] s = true := fun w hw => hts w (List.mem_filter.mp hw).1
  obtain ⟨c0, i0, h0⟩ := u_known hx ok0.1 (hx _ kw39)
  obtain ⟨c1, i1, h1⟩ := u_known hx ok1.1 (hx _ kw71)
  obtain ⟨c2, i2, h2⟩ := u_known hx ok2.1 (hx _ kw341)
  obtain ⟨c3, i3, h3⟩ := u_known hx ok3.1 (hx _ kw142)
  obtain ⟨c4, i4, h4⟩ := u_known hx ok4.1 (hx _ kw65)
  obtain ⟨c5, i5, h5⟩ := u_known hx ok5.1 (hx _ kw196)
  obtain ⟨c6, i6, h6⟩ := u_known hx ok6.1 (hx _ kw209)
  obtain ⟨c7, i7, h7⟩ := u_known hx ok7.1 (hx _ kw89)
  obtain ⟨c8, i8, h8⟩ := u_known hx ok8.1 (hx _ kw183)
  obtain ⟨c9, i9, h9⟩ := u_known hx ok9.1 (hx _ kw241)
  obtain ⟨c10, i10, h10⟩ := u_known hx ok10.1 (hx _ kw31)
  obtain ⟨c11, i11, h11⟩ := u_known hx ok11.1 (hx _ kw1162)
  obtain ⟨c12, i12, h12⟩ := u_known hx ok12.1 (hx _ kw1177)
  obtain ⟨c13, i13, h13⟩ := u_known hx ok13.1 (hx _ kw1156)
  refine ⟨fun k => match k with
    | 0 => c0
    | 1 => c1
    | 2 => c2
    | 3 => c3
    | 4 => c4
    | 5 => c5
    | 6 => c6
    | 7 => c7
    | 8 => c8
    | 9 => c9
    | 10 => c10
    | 11 => c11
    | 12 => c12
    | _ => c13, fun k => match k with
    | 0 => i0
    | 1 => i1
    | 2 => i2
    | 3 => i3
    | 4 => i4
    | 5 => i5
    | 6 => i6
    | 7 => i7
    | 8 => i8
    | 9 => i9
    | 10 => i10
    | 11 => i11
    | 12 => i12
    | _ => i13, ?_⟩
  intro k q hq
  match k, hq with
  | 0, hq => cases hq; exact h0
  | 1, hq => cases hq; exact h1
  | 2, hq => cases hq; exact h2
  | 3, hq => cases hq; exact h3
  | 4, hq => cases hq; exact h4
  | 5, hq => cases hq; exact h5
  | 6, hq => cases hq; exact h6
  | 7, hq => cases hq; exact h7
  | 8, hq => cases hq; exact h8
  | 9, hq => cases hq; exact h9
  | 10, hq => cases hq; exact h10
  | 11, hq => cases hq; exact h11
  | 12, hq => cases hq; exact h12
  | 13, hq => cases hq; exact h13
  | k + 14, hq => simp at hq
