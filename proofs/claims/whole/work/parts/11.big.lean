/-! IntervalTape$Big (X0): an object at a, its words at a + 1 -/
/-- the object, with its words and its size -/
def bigR (h : xH) (a : Nat) (f : Nat → Int32) (n : Nat) : Prop := h a = some (.inr (1, [.ref (a + 1), .int (nI n)])) ∧ h (a + 1) = some (.inl (0, 200, .inl f)) ∧ n ≤ 200
def bigV (h : xH) (a v : Nat) : Prop := ∃ f n, bigR h a f n ∧ bv f n = v ∧ (0 < n → f (n - 1) ≠ 0)
theorem bigR.off {h h' : xH} {a lo hi n : Nat} {f : Nat → Int32} (b : bigR h a f n) (o : xoff h' h lo hi) (d : a + 2 ≤ lo ∨ hi ≤ a) : bigR h' a f n := ⟨(o a (by omega)).trans b.1, (o (a + 1) (by omega)).trans b.2.1, b.2.2⟩
theorem bigV.off {h h' : xH} {a lo hi v : Nat} (b : bigV h a v) (o : xoff h' h lo hi) (d : a + 2 ≤ lo ∨ hi ≤ a) : bigV h' a v := by
  obtain ⟨f, n, r, e⟩ := b
  exact ⟨f, n, r.off o d, e⟩
theorem bigR.wr {h : xH} {a n : Nat} {f : Nat → Int32} (b : bigR h a f n) (f' : Nat → Int32) : bigR (xup h (a + 1) (.inl (0, 200, .inl f'))) a f' n := ⟨xup_a1.trans b.1, xup_s, b.2.2⟩
theorem bigR.sz {h : xH} {a n : Nat} {f : Nat → Int32} (b : bigR h a f n) {m : Nat} (hm : m ≤ 200) : bigR (xup h a (.inr (1, [.ref (a + 1), .int (nI m)]))) a f m := ⟨xup_s, xup_1a.trans b.2.1, hm⟩
theorem off_wr {h : xH} {a : Nat} {c : xE} : xoff (xup h (a + 1) c) h a (a + 2) := xoff_up xoff_rf (by omega) (by omega)
theorem off_sz {h : xH} {a : Nat} {c : xE} : xoff (xup h a c) h a (a + 2) := xoff_up xoff_rf (by omega) (by omega)
theorem dX0_digit_0 : decode cX0_digit 0 = .ok (.iload_n 1, 1) := by decide +kernel
theorem dX0_digit_1 : decode cX0_digit 1 = .ok (.ifCond .lt 25, 3) := by decide +kernel
theorem dX0_digit_4 : decode cX0_digit 4 = .ok (.iload_n 1, 1) := by decide +kernel
theorem dX0_digit_5 : decode cX0_digit 5 = .ok (.aload_n 0, 1) := by decide +kernel
theorem dX0_digit_6 : decode cX0_digit 6 = .ok (.getfield 13, 3) := by decide +kernel
theorem dX0_digit_9 : decode cX0_digit 9 = .ok (.if_icmp .ge 17, 3) := by decide +kernel
theorem dX0_digit_12 : decode cX0_digit 12 = .ok (.aload_n 0, 1) := by decide +kernel
theorem dX0_digit_13 : decode cX0_digit 13 = .ok (.getfield 9, 3) := by decide +kernel
theorem dX0_digit_16 : decode cX0_digit 16 = .ok (.iload_n 1, 1) := by decide +kernel
theorem dX0_digit_17 : decode cX0_digit 17 = .ok (.iaload, 1) := by decide +kernel
theorem dX0_digit_18 : decode cX0_digit 18 = .ok (.i2l, 1) := by decide +kernel
theorem dX0_digit_19 : decode cX0_digit 19 = .ok (.ldc2_w 23, 3) := by decide +kernel
theorem dX0_digit_22 : decode cX0_digit 22 = .ok (.land, 1) := by decide +kernel
theorem dX0_digit_23 : decode cX0_digit 23 = .ok (.goto 4, 3) := by decide +kernel
theorem dX0_digit_26 : decode cX0_digit 26 = .ok (.lconst 0, 1) := by decide +kernel
theorem dX0_digit_27 : decode cX0_digit 27 = .ok (.lreturn, 1) := by decide +kernel
abbrev r_X0_digit : Room := { frames := 0, cells := 0, slots := 0, locals := 0 }
abbrev m_X0_digit : xMd := (cX0_digit, RX0, 2, (some FieldType.long), false, r_X0_digit)
def b_X0_digit_27 (Q : xQ) : xK := x_lret Q
def b_X0_digit_26 (Q : xQ) : xK := x_c (.long 0) <| (b_X0_digit_27 Q)
def b_X0_digit_0 (Q : xQ) : xK := x_iload 1 <| x_if_lt ((b_X0_digit_26 Q)) <| x_iload 1 <| x_aload 0 <| x_get 1 1 <| x_icmp_ge ((b_X0_digit_26 Q)) <| x_aload 0 <| x_get 1 0 <| x_iload 1 <| x_iald <| x_i2l <| x_c (.long 4294967295) <| x_land <| (b_X0_digit_27 Q)
theorem s_X0_digit_27 (G : xG) (l : Launch) (Q : xQ) : xW G l m_X0_digit xX0 (xPm G Q r_X0_digit) 27 (b_X0_digit_27 Q) := xo_lret (pc := 27) rfl dX0_digit_27
theorem s_X0_digit_26 (G : xG) (l : Launch) (Q : xQ) : xW G l m_X0_digit xX0 (xPm G Q r_X0_digit) 26 (b_X0_digit_26 Q) := xo_lconst (pc := 26) dX0_digit_26 (by decide) <| (s_X0_digit_27 G l Q)
theorem s_X0_digit_0 (G : xG) (l : Launch) (Q : xQ) : xW G l m_X0_digit xX0 (xPm G Q r_X0_digit) 0 (b_X0_digit_0 Q) := xo_iload_n (pc := 0) (i := 1) dX0_digit_0 rfl <| xo_if_lt (pc := 1) (tgt := 26) dX0_digit_1 (by decide) ((s_X0_digit_26 G l Q)) <| xo_iload_n (pc := 4) (i := 1) dX0_digit_4 rfl <| xo_aload_n (pc := 5) (i := 0) dX0_digit_5 rfl <| xo_get (pc := 6) (ci := 1) (i := 1) rfl ok1 (by decide) dX0_digit_6 kw77 <| xo_icmp_ge (pc := 9) (tgt := 26) dX0_digit_9 (by decide) ((s_X0_digit_26 G l Q)) <| xo_aload_n (pc := 12) (i := 0) dX0_digit_12 rfl <| xo_get (pc := 13) (ci := 1) (i := 0) rfl ok1 (by decide) dX0_digit_13 kw76 <| xo_iload_n (pc := 16) (i := 1) dX0_digit_16 rfl <| xo_iald (pc := 17) dX0_digit_17 <| xo_i2l (pc := 18) dX0_digit_18 <| xo_ldc2_w (pc := 19) dX0_digit_19 kw531 <| xo_land (pc := 22) dX0_digit_22 <| xo_goto (pc := 23) (tgt := 27) dX0_digit_23 (by decide) <| (s_X0_digit_27 G l Q)

def dgt (f : Nat → Int32) (n : Nat) (i : Int32) : Nat := if 0 ≤ i.toInt ∧ i.toInt < n then wn (f i.toInt.toNat) else 0
def C_X0_digit : xC := fun av S Q => ∃ a f n i, bigR S.1 a f n ∧ av = [.ref a, .int i] ∧ Q (some (.long (lN (dgt f n i)))) S
theorem cM_X0_digit (G : xG) (l : Launch) : xM G l yX0_digit cX0_digit 2 (some FieldType.long) r_X0_digit C_X0_digit := by
  refine xM_of (fun Q => b_X0_digit_0 Q) RX0 false (s_X0_digit_0 G l) (by decide) rfl (by decide) ?_
  rintro av S Q ⟨a, f, n, i, ⟨h1, h2, h3⟩, rfl, hQ⟩
  refine ⟨Nat.le_of_ble_eq_true rfl, ?_⟩
  simp only [x_c, x_iload, x_lload, x_aload, x_istore, x_lstore, x_astore, x_iinc, x_iadd, x_isub, x_imul, x_iand, x_ior, x_ixor, x_ladd, x_lsub, x_lmul, x_land, x_lor, x_lxor, x_idiv, x_irem, x_ldiv, x_lrem, x_ineg, x_lneg, x_ishl, x_ishr, x_iushr, x_lshl, x_lshr, x_lushr, x_i2l, x_l2i, x_i2b, x_i2c, x_lcmp, x_if_eq, x_if_ne, x_if_lt, x_if_ge, x_if_gt, x_if_le, x_icmp_eq, x_icmp_ne, x_icmp_lt, x_icmp_ge, x_icmp_gt, x_icmp_le, x_dup, x_pop, x_dup_x1, x_dup2, x_iret, x_zret, x_lret, x_aret, x_vret, x_call, x_callv, x_calli, x_oinit, xlk, xs1, xs2, lv_args, Value.category, List.filter_cons, List.filter_nil, Nat.reduceAdd, Nat.reduceBEq, Nat.reduceEqDiff, Nat.reduceSub, Nat.sub_zero, beq_self_eq_true, Bool.not_true, Bool.not_false, Bool.and_true, Bool.and_false, Bool.true_and, Bool.false_and, reduceIte, reduceCtorEq, Bool.false_eq_true, Nat.one_ne_zero, Nat.zero_ne_one, Nat.zero_add, Option.toList_some, Option.toList_none, List.nil_append, List.cons_append, List.take_succ_cons, List.take_zero, List.take_nil, List.drop_succ_cons, List.drop_zero, List.length_cons, List.length_nil, List.reverse_cons, List.reverse_nil, List.head?_cons, List.map_cons, List.map_nil, List.sum_cons, List.sum_nil, true_and, and_true, List.getElem?_cons_zero, List.getElem?_cons_succ, Prod.eta, x_get, x_put, x_iald, x_iast, x_bald, x_bast, x_lald, x_last, x_alen, xup_s, xup_a1, xup_1a, xup_uu, nr_i, nr_l, nr_o, nr_a, ft_i, ft_l, ft_o, ft_a, Nat.reduceLT, i_cl0, i_cl1, i_n1, List.set_cons_zero, List.set_cons_succ, Nat.reduceLeDiff, Nat.le_refl, Nat.zero_le, Nat.add_zero, b_X0_digit_0, b_X0_digit_26, b_X0_digit_27, h1, h2]
  simp only [i_lt, i_le, i_0, nI_toInt (show n < 2 ^ 31 by omega), vp_in_iff, wn_mask]
  unfold dgt at hQ
  refine ⟨fun hi => ?_, fun hi => ⟨fun hn => ?_, fun hn => ⟨⟨by omega, by omega⟩, ?_⟩⟩⟩
  · rw [if_neg (by omega)] at hQ; exact hQ
  · rw [if_neg (by omega)] at hQ; exact hQ
  · rw [if_pos (by omega)] at hQ; exact hQ
theorem dX0_become_0 : decode cX0_become 0 = .ok (.aload_n 0, 1) := by decide +kernel
theorem dX0_become_1 : decode cX0_become 1 = .ok (.getfield 9, 3) := by decide +kernel
theorem dX0_become_4 : decode cX0_become 4 = .ok (.iconst 0, 1) := by decide +kernel
theorem dX0_become_5 : decode cX0_become 5 = .ok (.lload_n 1, 1) := by decide +kernel
theorem dX0_become_6 : decode cX0_become 6 = .ok (.l2i, 1) := by decide +kernel
theorem dX0_become_7 : decode cX0_become 7 = .ok (.iastore, 1) := by decide +kernel
theorem dX0_become_8 : decode cX0_become 8 = .ok (.aload_n 0, 1) := by decide +kernel
theorem dX0_become_9 : decode cX0_become 9 = .ok (.getfield 9, 3) := by decide +kernel
theorem dX0_become_12 : decode cX0_become 12 = .ok (.iconst 1, 1) := by decide +kernel
theorem dX0_become_13 : decode cX0_become 13 = .ok (.lload_n 1, 1) := by decide +kernel
theorem dX0_become_14 : decode cX0_become 14 = .ok (.bipush 32, 2) := by decide +kernel
theorem dX0_become_16 : decode cX0_become 16 = .ok (.lushr, 1) := by decide +kernel
theorem dX0_become_17 : decode cX0_become 17 = .ok (.l2i, 1) := by decide +kernel
theorem dX0_become_18 : decode cX0_become 18 = .ok (.iastore, 1) := by decide +kernel
theorem dX0_become_19 : decode cX0_become 19 = .ok (.aload_n 0, 1) := by decide +kernel
theorem dX0_become_20 : decode cX0_become 20 = .ok (.aload_n 0, 1) := by decide +kernel
theorem dX0_become_21 : decode cX0_become 21 = .ok (.getfield 9, 3) := by decide +kernel
theorem dX0_become_24 : decode cX0_become 24 = .ok (.iconst 1, 1) := by decide +kernel
theorem dX0_become_25 : decode cX0_become 25 = .ok (.iaload, 1) := by decide +kernel
theorem dX0_become_26 : decode cX0_become 26 = .ok (.ifCond .eq 7, 3) := by decide +kernel
theorem dX0_become_29 : decode cX0_become 29 = .ok (.iconst 2, 1) := by decide +kernel
theorem dX0_become_30 : decode cX0_become 30 = .ok (.goto 17, 3) := by decide +kernel
theorem dX0_become_33 : decode cX0_become 33 = .ok (.aload_n 0, 1) := by decide +kernel
theorem dX0_become_34 : decode cX0_become 34 = .ok (.getfield 9, 3) := by decide +kernel
theorem dX0_become_37 : decode cX0_become 37 = .ok (.iconst 0, 1) := by decide +kernel
theorem dX0_become_38 : decode cX0_become 38 = .ok (.iaload, 1) := by decide +kernel
theorem dX0_become_39 : decode cX0_become 39 = .ok (.ifCond .eq 7, 3) := by decide +kernel
theorem dX0_become_42 : decode cX0_become 42 = .ok (.iconst 1, 1) := by decide +kernel
theorem dX0_become_43 : decode cX0_become 43 = .ok (.goto 4, 3) := by decide +kernel
theorem dX0_become_46 : decode cX0_become 46 = .ok (.iconst 0, 1) := by decide +kernel
theorem dX0_become_47 : decode cX0_become 47 = .ok (.putfield 13, 3) := by decide +kernel
theorem dX0_become_50 : decode cX0_become 50 = .ok (.return_, 1) := by decide +kernel
abbrev r_X0_become : Room := { frames := 0, cells := 0, slots := 0, locals := 0 }
abbrev m_X0_become : xMd := (cX0_become, RX0, 3, none, false, r_X0_become)
def b_X0_become_47 (Q : xQ) : xK := x_put 1 1 .int <| x_vret Q
def b_X0_become_0 (Q : xQ) : xK := x_aload 0 <| x_get 1 0 <| x_c (.int 0) <| x_lload 1 <| x_l2i <| x_iast <| x_aload 0 <| x_get 1 0 <| x_c (.int 1) <| x_lload 1 <| x_c (.int 32) <| x_lushr <| x_l2i <| x_iast <| x_aload 0 <| x_aload 0 <| x_get 1 0 <| x_c (.int 1) <| x_iald <| x_if_eq (x_aload 0 <| x_get 1 0 <| x_c (.int 0) <| x_iald <| x_if_eq (x_c (.int 0) <| (b_X0_become_47 Q)) <| x_c (.int 1) <| (b_X0_become_47 Q)) <| x_c (.int 2) <| (b_X0_become_47 Q)
theorem s_X0_become_47 (G : xG) (l : Launch) (Q : xQ) : xW G l m_X0_become xX0 (xPm G Q r_X0_become) 47 (b_X0_become_47 Q) := xo_put (pc := 47) (ci := 1) (i := 1) rfl ok1 (by decide) rfl rfl dX0_become_47 kw77 <| xo_vret (pc := 50) rfl dX0_become_50
theorem s_X0_become_0 (G : xG) (l : Launch) (Q : xQ) : xW G l m_X0_become xX0 (xPm G Q r_X0_become) 0 (b_X0_become_0 Q) := xo_aload_n (pc := 0) (i := 0) dX0_become_0 rfl <| xo_get (pc := 1) (ci := 1) (i := 0) rfl ok1 (by decide) dX0_become_1 kw76 <| xo_iconst (pc := 4) dX0_become_4 (by decide) <| xo_lload_n (pc := 5) (i := 1) dX0_become_5 rfl <| xo_l2i (pc := 6) dX0_become_6 <| xo_iast (pc := 7) dX0_become_7 <| xo_aload_n (pc := 8) (i := 0) dX0_become_8 rfl <| xo_get (pc := 9) (ci := 1) (i := 0) rfl ok1 (by decide) dX0_become_9 kw76 <| xo_iconst (pc := 12) dX0_become_12 (by decide) <| xo_lload_n (pc := 13) (i := 1) dX0_become_13 rfl <| xo_bipush (pc := 14) dX0_become_14 (by decide) <| xo_lushr (pc := 16) dX0_become_16 <| xo_l2i (pc := 17) dX0_become_17 <| xo_iast (pc := 18) dX0_become_18 <| xo_aload_n (pc := 19) (i := 0) dX0_become_19 rfl <| xo_aload_n (pc := 20) (i := 0) dX0_become_20 rfl <| xo_get (pc := 21) (ci := 1) (i := 0) rfl ok1 (by decide) dX0_become_21 kw76 <| xo_iconst (pc := 24) dX0_become_24 (by decide) <| xo_iald (pc := 25) dX0_become_25 <| xo_if_eq (pc := 26) (tgt := 33) dX0_become_26 (by decide) (xo_aload_n (pc := 33) (i := 0) dX0_become_33 rfl <| xo_get (pc := 34) (ci := 1) (i := 0) rfl ok1 (by decide) dX0_become_34 kw76 <| xo_iconst (pc := 37) dX0_become_37 (by decide) <| xo_iald (pc := 38) dX0_become_38 <| xo_if_eq (pc := 39) (tgt := 46) dX0_become_39 (by decide) (xo_iconst (pc := 46) dX0_become_46 (by decide) <| (s_X0_become_47 G l Q)) <| xo_iconst (pc := 42) dX0_become_42 (by decide) <| xo_goto (pc := 43) (tgt := 47) dX0_become_43 (by decide) <| (s_X0_become_47 G l Q)) <| xo_iconst (pc := 29) dX0_become_29 (by decide) <| xo_goto (pc := 30) (tgt := 47) dX0_become_30 (by decide) <| (s_X0_become_47 G l Q)

def C_X0_become : xC := fun av S Q => ∃ a f n x, bigR S.1 a f n ∧ av = [.ref a, .long x] ∧ ∀ h', xoff h' S.1 a (a + 2) → bigV h' a (uN x) → Q none (h', S.2)
theorem cM_X0_become (G : xG) (l : Launch) : xM G l yX0_become cX0_become 3 none r_X0_become C_X0_become := by
  refine xM_of (fun Q => b_X0_become_0 Q) RX0 false (s_X0_become_0 G l) (by decide) rfl (by decide) ?_
  rintro av S Q ⟨a, f, n, x, ⟨h1, h2, h3⟩, rfl, hQ⟩
  refine ⟨Nat.le_of_ble_eq_true rfl, ?_⟩
  obtain ⟨u, hu, rfl⟩ := wb_of x
  rw [uN_lN hu] at hQ
  simp only [x_c, x_iload, x_lload, x_aload, x_istore, x_lstore, x_astore, x_iinc, x_iadd, x_isub, x_imul, x_iand, x_ior, x_ixor, x_ladd, x_lsub, x_lmul, x_land, x_lor, x_lxor, x_idiv, x_irem, x_ldiv, x_lrem, x_ineg, x_lneg, x_ishl, x_ishr, x_iushr, x_lshl, x_lshr, x_lushr, x_i2l, x_l2i, x_i2b, x_i2c, x_lcmp, x_if_eq, x_if_ne, x_if_lt, x_if_ge, x_if_gt, x_if_le, x_icmp_eq, x_icmp_ne, x_icmp_lt, x_icmp_ge, x_icmp_gt, x_icmp_le, x_dup, x_pop, x_dup_x1, x_dup2, x_iret, x_zret, x_lret, x_aret, x_vret, x_call, x_callv, x_calli, x_oinit, xlk, xs1, xs2, lv_args, Value.category, List.filter_cons, List.filter_nil, Nat.reduceAdd, Nat.reduceBEq, Nat.reduceEqDiff, Nat.reduceSub, Nat.sub_zero, beq_self_eq_true, Bool.not_true, Bool.not_false, Bool.and_true, Bool.and_false, Bool.true_and, Bool.false_and, reduceIte, reduceCtorEq, Bool.false_eq_true, Nat.one_ne_zero, Nat.zero_ne_one, Nat.zero_add, Option.toList_some, Option.toList_none, List.nil_append, List.cons_append, List.take_succ_cons, List.take_zero, List.take_nil, List.drop_succ_cons, List.drop_zero, List.length_cons, List.length_nil, List.reverse_cons, List.reverse_nil, List.head?_cons, List.map_cons, List.map_nil, List.sum_cons, List.sum_nil, true_and, and_true, List.getElem?_cons_zero, List.getElem?_cons_succ, Prod.eta, x_get, x_put, x_iald, x_iast, x_bald, x_bast, x_lald, x_last, x_alen, xup_s, xup_a1, xup_1a, xup_uu, nr_i, nr_l, nr_o, nr_a, ft_i, ft_l, ft_o, ft_a, Nat.reduceLT, i_cl0, i_cl1, i_n1, List.set_cons_zero, List.set_cons_succ, Nat.reduceLeDiff, Nat.le_refl, Nat.zero_le, Nat.add_zero, b_X0_become_0, b_X0_become_47, h1, h2, lN_l2i, lN_ush32 hu]
  have e0 : upd (upd f 0 (nI u)) 1 (nI (u / 2 ^ 32)) 0 = nI u := by rw [pk_un (by omega), pk_us]
  have e1 : upd (upd f 0 (nI u)) 1 (nI (u / 2 ^ 32)) 1 = nI (u / 2 ^ 32) := pk_us
  have w0 := wn_nI u
  have w1 := wn_nI (u / 2 ^ 32)
  rw [e0, e1, wn_0, wn_0, w0, w1]
  refine ⟨vi_0, vi_1, vi_1, fun z1 => ⟨vi_0, fun z0 => ?_, fun z0 => ?_⟩, fun z1 => ?_⟩
  · refine hQ _ (xoff_up (xoff_up xoff_rf (by omega) (by omega)) (by omega) (by omega)) ⟨_, 0, ⟨xup_s, by rw [xup_1a, xup_s], by omega⟩, ?_, by omega⟩
    show 0 = u
    omega
  · refine hQ _ (xoff_up (xoff_up xoff_rf (by omega) (by omega)) (by omega) (by omega)) ⟨_, 1, ⟨xup_s, by rw [xup_1a, xup_s], by omega⟩, ?_, fun _ => ?_⟩
    · rw [bv_1, e0, w0]; omega
    · show ¬ upd (upd f 0 (nI u)) 1 (nI (u / 2 ^ 32)) 0 = 0
      rw [e0, wn_0, w0]; exact z0
  · refine hQ _ (xoff_up (xoff_up xoff_rf (by omega) (by omega)) (by omega) (by omega)) ⟨_, 2, ⟨xup_s, by rw [xup_1a, xup_s], by omega⟩, ?_, fun _ => ?_⟩
    · rw [bv_2, e0, e1, w0, w1]; omega
    · show ¬ upd (upd f 0 (nI u)) 1 (nI (u / 2 ^ 32)) 1 = 0
      rw [e1, wn_0, w1]; exact z1
theorem dX0_copy_0 : decode cX0_copy 0 = .ok (.iconst 0, 1) := by decide +kernel
theorem dX0_copy_1 : decode cX0_copy 1 = .ok (.istore_n 2, 1) := by decide +kernel
theorem dX0_copy_2 : decode cX0_copy 2 = .ok (.iload_n 2, 1) := by decide +kernel
theorem dX0_copy_3 : decode cX0_copy 3 = .ok (.aload_n 1, 1) := by decide +kernel
theorem dX0_copy_4 : decode cX0_copy 4 = .ok (.getfield 13, 3) := by decide +kernel
theorem dX0_copy_7 : decode cX0_copy 7 = .ok (.if_icmp .ge 21, 3) := by decide +kernel
theorem dX0_copy_10 : decode cX0_copy 10 = .ok (.aload_n 0, 1) := by decide +kernel
theorem dX0_copy_11 : decode cX0_copy 11 = .ok (.getfield 9, 3) := by decide +kernel
theorem dX0_copy_14 : decode cX0_copy 14 = .ok (.iload_n 2, 1) := by decide +kernel
theorem dX0_copy_15 : decode cX0_copy 15 = .ok (.aload_n 1, 1) := by decide +kernel
theorem dX0_copy_16 : decode cX0_copy 16 = .ok (.getfield 9, 3) := by decide +kernel
theorem dX0_copy_19 : decode cX0_copy 19 = .ok (.iload_n 2, 1) := by decide +kernel
theorem dX0_copy_20 : decode cX0_copy 20 = .ok (.iaload, 1) := by decide +kernel
theorem dX0_copy_21 : decode cX0_copy 21 = .ok (.iastore, 1) := by decide +kernel
theorem dX0_copy_22 : decode cX0_copy 22 = .ok (.iinc 2 1, 3) := by decide +kernel
theorem dX0_copy_25 : decode cX0_copy 25 = .ok (.goto (-23), 3) := by decide +kernel
theorem dX0_copy_28 : decode cX0_copy 28 = .ok (.aload_n 0, 1) := by decide +kernel
theorem dX0_copy_29 : decode cX0_copy 29 = .ok (.aload_n 1, 1) := by decide +kernel
theorem dX0_copy_30 : decode cX0_copy 30 = .ok (.getfield 13, 3) := by decide +kernel
theorem dX0_copy_33 : decode cX0_copy 33 = .ok (.putfield 13, 3) := by decide +kernel
theorem dX0_copy_36 : decode cX0_copy 36 = .ok (.return_, 1) := by decide +kernel
abbrev r_X0_copy : Room := { frames := 0, cells := 0, slots := 0, locals := 0 }
abbrev m_X0_copy : xMd := (cX0_copy, RX0, 3, none, false, r_X0_copy)
def b_X0_copy_0 (Q : xQ) (K2 : xK) : xK := x_c (.int 0) <| x_istore 2 <| K2
def b_X0_copy_2 (Q : xQ) (K2 : xK) : xK := x_iload 2 <| x_aload 1 <| x_get 1 1 <| x_icmp_ge (x_aload 0 <| x_aload 1 <| x_get 1 1 <| x_put 1 1 .int <| x_vret Q) <| x_aload 0 <| x_get 1 0 <| x_iload 2 <| x_aload 1 <| x_get 1 0 <| x_iload 2 <| x_iald <| x_iast <| x_iinc 2 1 <| K2
theorem s_X0_copy_0 (G : xG) (l : Launch) (Q : xQ) (K2 : xK) (h2 : xW G l m_X0_copy xX0 (xPm G Q r_X0_copy) 2 K2) : xW G l m_X0_copy xX0 (xPm G Q r_X0_copy) 0 (b_X0_copy_0 Q K2) := xo_iconst (pc := 0) dX0_copy_0 (by decide) <| xo_istore_n (pc := 1) (i := 2) dX0_copy_1 rfl (by decide) <| h2
theorem s_X0_copy_2 (G : xG) (l : Launch) (Q : xQ) (K2 : xK) (h2 : xW G l m_X0_copy xX0 (xPm G Q r_X0_copy) 2 K2) : xW G l m_X0_copy xX0 (xPm G Q r_X0_copy) 2 (b_X0_copy_2 Q K2) := xo_iload_n (pc := 2) (i := 2) dX0_copy_2 rfl <| xo_aload_n (pc := 3) (i := 1) dX0_copy_3 rfl <| xo_get (pc := 4) (ci := 1) (i := 1) rfl ok1 (by decide) dX0_copy_4 kw77 <| xo_icmp_ge (pc := 7) (tgt := 28) dX0_copy_7 (by decide) (xo_aload_n (pc := 28) (i := 0) dX0_copy_28 rfl <| xo_aload_n (pc := 29) (i := 1) dX0_copy_29 rfl <| xo_get (pc := 30) (ci := 1) (i := 1) rfl ok1 (by decide) dX0_copy_30 kw77 <| xo_put (pc := 33) (ci := 1) (i := 1) rfl ok1 (by decide) rfl rfl dX0_copy_33 kw77 <| xo_vret (pc := 36) rfl dX0_copy_36) <| xo_aload_n (pc := 10) (i := 0) dX0_copy_10 rfl <| xo_get (pc := 11) (ci := 1) (i := 0) rfl ok1 (by decide) dX0_copy_11 kw76 <| xo_iload_n (pc := 14) (i := 2) dX0_copy_14 rfl <| xo_aload_n (pc := 15) (i := 1) dX0_copy_15 rfl <| xo_get (pc := 16) (ci := 1) (i := 0) rfl ok1 (by decide) dX0_copy_16 kw76 <| xo_iload_n (pc := 19) (i := 2) dX0_copy_19 rfl <| xo_iald (pc := 20) dX0_copy_20 <| xo_iast (pc := 21) dX0_copy_21 <| xo_iinc (pc := 22) dX0_copy_22 (by decide) <| xo_goto (pc := 25) (tgt := 2) dX0_copy_25 (by decide) <| h2

def C_X0_copy : xC := fun av S Q => ∃ a b v, av = [.ref a, .ref b] ∧ (a + 2 ≤ b ∨ b + 2 ≤ a) ∧ (∃ f n, bigR S.1 a f n) ∧ bigV S.1 b v ∧ ∀ h', xoff h' S.1 a (a + 2) → bigV h' a v → Q none (h', S.2)
def cn_X0_copy : Nat × Nat × Nat → List (Nat × Value) := fun v => [(0, .ref v.1), (1, .ref v.2.1), (2, .int (nI v.2.2))]
def I_X0_copy (Q : xQ) : Nat → Nat × Nat × Nat → xS → Prop := fun k v S => ∃ f g n m, bigR S.1 v.1 f n ∧ bigR S.1 v.2.1 g m ∧ (v.1 + 2 ≤ v.2.1 ∨ v.2.1 + 2 ≤ v.1) ∧ k + v.2.2 = m ∧ (∀ i, i < v.2.2 → f i = g i) ∧ ∀ h', xoff h' S.1 v.1 (v.1 + 2) → (∃ f', bigR h' v.1 f' m ∧ ∀ i, i < m → f' i = g i) → Q none (h', S.2)
theorem cM_X0_copy (G : xG) (l : Launch) : xM G l yX0_copy cX0_copy 3 none r_X0_copy C_X0_copy := by
  refine xM_of (fun Q => b_X0_copy_0 Q (xInv cn_X0_copy (I_X0_copy Q))) RX0 false (fun Q => s_X0_copy_0 G l Q _ (xW.lp (b_X0_copy_2 Q) (fun K hK => s_X0_copy_2 G l Q K hK) ?_)) (by decide) rfl (by decide) ?_
  · rintro k ⟨a, b, i⟩ S ⟨f, g, n, m, ⟨h1, h2, h3⟩, ⟨g1, g2, g3⟩, hd, hk, hi, hQ⟩
    dsimp only at *
    simp only [x_c, x_iload, x_lload, x_aload, x_istore, x_lstore, x_astore, x_iinc, x_iadd, x_isub, x_imul, x_iand, x_ior, x_ixor, x_ladd, x_lsub, x_lmul, x_land, x_lor, x_lxor, x_idiv, x_irem, x_ldiv, x_lrem, x_ineg, x_lneg, x_ishl, x_ishr, x_iushr, x_lshl, x_lshr, x_lushr, x_i2l, x_l2i, x_i2b, x_i2c, x_lcmp, x_if_eq, x_if_ne, x_if_lt, x_if_ge, x_if_gt, x_if_le, x_icmp_eq, x_icmp_ne, x_icmp_lt, x_icmp_ge, x_icmp_gt, x_icmp_le, x_dup, x_pop, x_dup_x1, x_dup2, x_iret, x_zret, x_lret, x_aret, x_vret, x_call, x_callv, x_calli, x_oinit, xlk, xs1, xs2, lv_args, Value.category, List.filter_cons, List.filter_nil, Nat.reduceAdd, Nat.reduceBEq, Nat.reduceEqDiff, Nat.reduceSub, Nat.sub_zero, beq_self_eq_true, Bool.not_true, Bool.not_false, Bool.and_true, Bool.and_false, Bool.true_and, Bool.false_and, reduceIte, reduceCtorEq, Bool.false_eq_true, Nat.one_ne_zero, Nat.zero_ne_one, Nat.zero_add, Option.toList_some, Option.toList_none, List.nil_append, List.cons_append, List.take_succ_cons, List.take_zero, List.take_nil, List.drop_succ_cons, List.drop_zero, List.length_cons, List.length_nil, List.reverse_cons, List.reverse_nil, List.head?_cons, List.map_cons, List.map_nil, List.sum_cons, List.sum_nil, true_and, and_true, List.getElem?_cons_zero, List.getElem?_cons_succ, Prod.eta, x_get, x_put, x_iald, x_iast, x_bald, x_bast, x_lald, x_last, x_alen, xup_s, xup_a1, xup_1a, xup_uu, nr_i, nr_l, nr_o, nr_a, ft_i, ft_l, ft_o, ft_a, Nat.reduceLT, i_cl0, i_cl1, i_n1, List.set_cons_zero, List.set_cons_succ, Nat.reduceLeDiff, Nat.le_refl, Nat.zero_le, Nat.add_zero, b_X0_copy_2, cn_X0_copy, h1, h2, g1, g2]
    simp only [nI_leI (show m < 2 ^ 31 by omega) (show i < 2 ^ 31 by omega), nI_clamp (show i < 2 ^ 31 by omega)]
    refine ⟨fun q => ?_, fun q => ⟨vp_in_nI (by omega) (by decide), vp_in_nI (by omega) (by decide), ?_⟩⟩
    · obtain rfl : i = m := by omega
      exact hQ _ (xoff_up xoff_rf (by omega) (by omega)) ⟨f, ⟨xup_s, by rw [xup_1a]; exact h2, g3⟩, hi⟩
    · have r1 : bigR S.1 a f n := ⟨h1, h2, h3⟩
      have r2 : bigR S.1 b g m := ⟨g1, g2, g3⟩
      refine xInvL.mk (k - 1) (a, b, i + 1) (by omega) ⟨rfl, rfl, rfl, trivial⟩ ⟨upd f i (g i), g, n, m, r1.wr _, r2.off off_wr (by omega), hd, by dsimp only; omega, fun j hj => ?_, fun h' o' r' => hQ h' (xoff_tr o' off_wr) r'⟩
      by_cases e : j = i
      · subst e; exact pk_us
      · rw [pk_un e]; exact hi j (by dsimp only at hj; omega)
  · rintro av S Q ⟨a, b, v, rfl, hd, ⟨f, n, hf⟩, ⟨g, m, hg, hv, hz⟩, hQ⟩
    refine ⟨Nat.le_of_ble_eq_true rfl, ?_⟩
    simp only [x_c, x_iload, x_lload, x_aload, x_istore, x_lstore, x_astore, x_iinc, x_iadd, x_isub, x_imul, x_iand, x_ior, x_ixor, x_ladd, x_lsub, x_lmul, x_land, x_lor, x_lxor, x_idiv, x_irem, x_ldiv, x_lrem, x_ineg, x_lneg, x_ishl, x_ishr, x_iushr, x_lshl, x_lshr, x_lushr, x_i2l, x_l2i, x_i2b, x_i2c, x_lcmp, x_if_eq, x_if_ne, x_if_lt, x_if_ge, x_if_gt, x_if_le, x_icmp_eq, x_icmp_ne, x_icmp_lt, x_icmp_ge, x_icmp_gt, x_icmp_le, x_dup, x_pop, x_dup_x1, x_dup2, x_iret, x_zret, x_lret, x_aret, x_vret, x_call, x_callv, x_calli, x_oinit, xlk, xs1, xs2, lv_args, Value.category, List.filter_cons, List.filter_nil, Nat.reduceAdd, Nat.reduceBEq, Nat.reduceEqDiff, Nat.reduceSub, Nat.sub_zero, beq_self_eq_true, Bool.not_true, Bool.not_false, Bool.and_true, Bool.and_false, Bool.true_and, Bool.false_and, reduceIte, reduceCtorEq, Bool.false_eq_true, Nat.one_ne_zero, Nat.zero_ne_one, Nat.zero_add, Option.toList_some, Option.toList_none, List.nil_append, List.cons_append, List.take_succ_cons, List.take_zero, List.take_nil, List.drop_succ_cons, List.drop_zero, List.length_cons, List.length_nil, List.reverse_cons, List.reverse_nil, List.head?_cons, List.map_cons, List.map_nil, List.sum_cons, List.sum_nil, true_and, and_true, List.getElem?_cons_zero, List.getElem?_cons_succ, Prod.eta, x_get, x_put, x_iald, x_iast, x_bald, x_bast, x_lald, x_last, x_alen, xup_s, xup_a1, xup_1a, xup_uu, nr_i, nr_l, nr_o, nr_a, ft_i, ft_l, ft_o, ft_a, Nat.reduceLT, i_cl0, i_cl1, i_n1, List.set_cons_zero, List.set_cons_succ, Nat.reduceLeDiff, Nat.le_refl, Nat.zero_le, Nat.add_zero, b_X0_copy_0]
    refine xInv.mk m (a, b, 0) ⟨rfl, rfl, rfl, trivial⟩ ⟨f, g, n, m, hf, hg, hd, rfl, fun i hi => absurd hi (Nat.not_lt_zero _), fun h' o' r' => hQ h' o' ?_⟩
    obtain ⟨f', hf', he⟩ := r'
    exact ⟨f', m, hf', by rw [← hv]; exact bv_congr he, fun q => by rw [he _ (by omega)]; exact hz q⟩
