/-! IntervalTape$Big (X0): an object at a, its words at a + 1 -/
/-- the object, with its words and its size -/
def bigR (h : xH) (a : Nat) (f : Nat → Int32) (n : Nat) : Prop := h a = some (.inr (1, [.ref (a + 1), .int (nI n)])) ∧ h (a + 1) = some (.inl (0, 200, .inl f)) ∧ n ≤ 200
def bigV (h : xH) (a v : Nat) : Prop := ∃ f n, bigR h a f n ∧ bv f n = v ∧ (0 < n → f (n - 1) ≠ 0)
theorem dX0_digit_0 : decode cX0_digit 0 = .ok (.iload_n 1, 1) := by decide +kernel
theorem dX0_digit_1 : decode cX0_digit 1 = .ok (.ifCond .lt 25, 3) := by decide +kernel
theorem dX0_digit_4 : decode cX0_digit 4 = .ok (.iload_n 1, 1) := by decide +kernel
theorem dX0_digit_5 : decode cX0_digit 5 = .ok (.aload_n 0, 1) := by decide +kernel
theorem dX0_digit_6 : decode cX0_digit 6 = .ok (.getfield 13, 3) := by decide +kernel
theorem dX0_digit_9 : decode cX0_digit 9 = .ok (.if_icmp .ge 17, 3) := by decide +kernel
theorem dX0_digit_12 : decode cX0_digit 12 = .ok (.aload_n 0, 1) := by decide +kernel
theorem dX0_digit_13 : decode cX0_digit 13 = .ok (.getfield 9, 3) := by decide +kernel
theorem dX0_digit_16 : decode cX0_digit 16 = .ok (.iload_n 1, 1) := by decide +kernel
theorem dX0_digit_17 : decode cX0_digit 17 = .ok (.iaload, 1) := by decide +kernel
theorem dX0_digit_18 : decode cX0_digit 18 = .ok (.i2l, 1) := by decide +kernel
theorem dX0_digit_19 : decode cX0_digit 19 = .ok (.ldc2_w 23, 3) := by decide +kernel
theorem dX0_digit_22 : decode cX0_digit 22 = .ok (.land, 1) := by decide +kernel
theorem dX0_digit_23 : decode cX0_digit 23 = .ok (.goto 4, 3) := by decide +kernel
theorem dX0_digit_26 : decode cX0_digit 26 = .ok (.lconst 0, 1) := by decide +kernel
theorem dX0_digit_27 : decode cX0_digit 27 = .ok (.lreturn, 1) := by decide +kernel
abbrev r_X0_digit : Room := { frames := 0, cells := 0, slots := 0, locals := 0 }
abbrev m_X0_digit : xMd := (cX0_digit, RX0, 2, (some FieldType.long), false, r_X0_digit)
def b_X0_digit_27 (Q : xQ) : xK := x_lret Q
def b_X0_digit_26 (Q : xQ) : xK := x_c (.long 0) <| (b_X0_digit_27 Q)
def b_X0_digit_0 (Q : xQ) : xK := x_iload 1 <| x_if_lt ((b_X0_digit_26 Q)) <| x_iload 1 <| x_aload 0 <| x_get 1 1 <| x_icmp_ge ((b_X0_digit_26 Q)) <| x_aload 0 <| x_get 1 0 <| x_iload 1 <| x_iald <| x_i2l <| x_c (.long 4294967295) <| x_land <| (b_X0_digit_27 Q)
theorem s_X0_digit_27 (G : xG) (l : Launch) (Q : xQ) : xW G l m_X0_digit xX0 (xPm G Q r_X0_digit) 27 (b_X0_digit_27 Q) := xo_lret (pc := 27) rfl dX0_digit_27
theorem s_X0_digit_26 (G : xG) (l : Launch) (Q : xQ) : xW G l m_X0_digit xX0 (xPm G Q r_X0_digit) 26 (b_X0_digit_26 Q) := xo_lconst (pc := 26) dX0_digit_26 (by decide) <| (s_X0_digit_27 G l Q)
theorem s_X0_digit_0 (G : xG) (l : Launch) (Q : xQ) : xW G l m_X0_digit xX0 (xPm G Q r_X0_digit) 0 (b_X0_digit_0 Q) := xo_iload_n (pc := 0) (i := 1) dX0_digit_0 rfl <| xo_if_lt (pc := 1) (tgt := 26) dX0_digit_1 (by decide) ((s_X0_digit_26 G l Q)) <| xo_iload_n (pc := 4) (i := 1) dX0_digit_4 rfl <| xo_aload_n (pc := 5) (i := 0) dX0_digit_5 rfl <| xo_get (pc := 6) (ci := 1) (i := 1) rfl ok1 (by decide) dX0_digit_6 kw77 <| xo_icmp_ge (pc := 9) (tgt := 26) dX0_digit_9 (by decide) ((s_X0_digit_26 G l Q)) <| xo_aload_n (pc := 12) (i := 0) dX0_digit_12 rfl <| xo_get (pc := 13) (ci := 1) (i := 0) rfl ok1 (by decide) dX0_digit_13 kw76 <| xo_iload_n (pc := 16) (i := 1) dX0_digit_16 rfl <| xo_iald (pc := 17) dX0_digit_17 <| xo_i2l (pc := 18) dX0_digit_18 <| xo_ldc2_w (pc := 19) dX0_digit_19 kw531 <| xo_land (pc := 22) dX0_digit_22 <| xo_goto (pc := 23) (tgt := 27) dX0_digit_23 (by decide) <| (s_X0_digit_27 G l Q)

def C_X0_digit : xC := fun av S Q => ∃ a f n i, bigR S.1 a f n ∧ av = [.ref a, .int i] ∧ Q (some (.long (if 0 ≤ i ∧ i < nI n then lN (wn (f i.toNatClampNeg)) else 0))) S
theorem cM_X0_digit (G : xG) (l : Launch) : xM G l yX0_digit cX0_digit 2 (some FieldType.long) r_X0_digit C_X0_digit := by
  refine xM_of (fun Q => b_X0_digit_0 Q) RX0 false (s_X0_digit_0 G l) (by decide) rfl (by decide) ?_
  rintro av S Q ⟨a, f, n, i, ⟨h1, h2, h3⟩, rfl, hQ⟩
  refine ⟨Nat.le_of_ble_eq_true rfl, ?_⟩
  simp only [b_X0_digit_0, b_X0_digit_26, b_X0_digit_27, x_iload, x_aload, xlk, lv_args, x_if_lt, x_icmp_ge, x_c, x_lret]
  sorry
