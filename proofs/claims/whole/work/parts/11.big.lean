/-! IntervalTape$Big (X0): an object at a, its words at a + 1 -/
/-- the object, with its words and its size -/
def bigR (h : xH) (a : Nat) (f : Nat → Int32) (n : Nat) : Prop := h a = some (.inr (1, [.ref (a + 1), .int (nI n)])) ∧ h (a + 1) = some (.inl (0, 200, .inl f)) ∧ n ≤ 200
def bigV (h : xH) (a v : Nat) : Prop := ∃ f n, bigR h a f n ∧ bv f n = v ∧ (0 < n → f (n - 1) ≠ 0)
theorem bigR.off {h h' : xH} {a lo hi n : Nat} {f : Nat → Int32} (b : bigR h a f n) (o : xoff h' h lo hi) (d : a + 2 ≤ lo ∨ hi ≤ a) : bigR h' a f n := ⟨(o a (by omega)).trans b.1, (o (a + 1) (by omega)).trans b.2.1, b.2.2⟩
theorem bigV.off {h h' : xH} {a lo hi v : Nat} (b : bigV h a v) (o : xoff h' h lo hi) (d : a + 2 ≤ lo ∨ hi ≤ a) : bigV h' a v := by
  obtain ⟨f, n, r, e⟩ := b
  exact ⟨f, n, r.off o d, e⟩
theorem bigR.wr {h : xH} {a n : Nat} {f : Nat → Int32} (b : bigR h a f n) (f' : Nat → Int32) : bigR (xup h (a + 1) (.inl (0, 200, .inl f'))) a f' n := ⟨xup_a1.trans b.1, xup_s, b.2.2⟩
theorem bigR.sz {h : xH} {a n : Nat} {f : Nat → Int32} (b : bigR h a f n) {m : Nat} (hm : m ≤ 200) : bigR (xup h a (.inr (1, [.ref (a + 1), .int (nI m)]))) a f m := ⟨xup_s, xup_1a.trans b.2.1, hm⟩
theorem off_wr {h : xH} {a : Nat} {c : xE} : xoff (xup h (a + 1) c) h a (a + 2) := xoff_up xoff_rf (by omega) (by omega)
theorem off_sz {h : xH} {a : Nat} {c : xE} : xoff (xup h a c) h a (a + 2) := xoff_up xoff_rf (by omega) (by omega)
theorem dX0_digit_0 : decode cX0_digit 0 = .ok (.iload_n 1, 1) := by decide +kernel
theorem dX0_digit_1 : decode cX0_digit 1 = .ok (.ifCond .lt 25, 3) := by decide +kernel
theorem dX0_digit_4 : decode cX0_digit 4 = .ok (.iload_n 1, 1) := by decide +kernel
theorem dX0_digit_5 : decode cX0_digit 5 = .ok (.aload_n 0, 1) := by decide +kernel
theorem dX0_digit_6 : decode cX0_digit 6 = .ok (.getfield 13, 3) := by decide +kernel
theorem dX0_digit_9 : decode cX0_digit 9 = .ok (.if_icmp .ge 17, 3) := by decide +kernel
theorem dX0_digit_12 : decode cX0_digit 12 = .ok (.aload_n 0, 1) := by decide +kernel
theorem dX0_digit_13 : decode cX0_digit 13 = .ok (.getfield 9, 3) := by decide +kernel
theorem dX0_digit_16 : decode cX0_digit 16 = .ok (.iload_n 1, 1) := by decide +kernel
theorem dX0_digit_17 : decode cX0_digit 17 = .ok (.iaload, 1) := by decide +kernel
theorem dX0_digit_18 : decode cX0_digit 18 = .ok (.i2l, 1) := by decide +kernel
theorem dX0_digit_19 : decode cX0_digit 19 = .ok (.ldc2_w 23, 3) := by decide +kernel
theorem dX0_digit_22 : decode cX0_digit 22 = .ok (.land, 1) := by decide +kernel
theorem dX0_digit_23 : decode cX0_digit 23 = .ok (.goto 4, 3) := by decide +kernel
theorem dX0_digit_26 : decode cX0_digit 26 = .ok (.lconst 0, 1) := by decide +kernel
theorem dX0_digit_27 : decode cX0_digit 27 = .ok (.lreturn, 1) := by decide +kernel
abbrev r_X0_digit : Room := { frames := 0, cells := 0, slots := 0, locals := 0 }
abbrev m_X0_digit : xMd := (cX0_digit, RX0, 2, (some FieldType.long), false, r_X0_digit)
def b_X0_digit_27 (Q : xQ) : xK := x_lret Q
def b_X0_digit_26 (Q : xQ) : xK := x_c (.long 0) <| (b_X0_digit_27 Q)
def b_X0_digit_0 (Q : xQ) : xK := x_iload 1 <| x_if_lt ((b_X0_digit_26 Q)) <| x_iload 1 <| x_aload 0 <| x_get 1 1 <| x_icmp_ge ((b_X0_digit_26 Q)) <| x_aload 0 <| x_get 1 0 <| x_iload 1 <| x_iald <| x_i2l <| x_c (.long 4294967295) <| x_land <| (b_X0_digit_27 Q)
theorem s_X0_digit_27 (G : xG) (l : Launch) (Q : xQ) : xW G l m_X0_digit xX0 (xPm G Q r_X0_digit) 27 (b_X0_digit_27 Q) := xo_lret (pc := 27) rfl dX0_digit_27
theorem s_X0_digit_26 (G : xG) (l : Launch) (Q : xQ) : xW G l m_X0_digit xX0 (xPm G Q r_X0_digit) 26 (b_X0_digit_26 Q) := xo_lconst (pc := 26) dX0_digit_26 (by decide) <| (s_X0_digit_27 G l Q)
theorem s_X0_digit_0 (G : xG) (l : Launch) (Q : xQ) : xW G l m_X0_digit xX0 (xPm G Q r_X0_digit) 0 (b_X0_digit_0 Q) := xo_iload_n (pc := 0) (i := 1) dX0_digit_0 rfl <| xo_if_lt (pc := 1) (tgt := 26) dX0_digit_1 (by decide) ((s_X0_digit_26 G l Q)) <| xo_iload_n (pc := 4) (i := 1) dX0_digit_4 rfl <| xo_aload_n (pc := 5) (i := 0) dX0_digit_5 rfl <| xo_get (pc := 6) (ci := 1) (i := 1) rfl ok1 (by decide) dX0_digit_6 kw77 <| xo_icmp_ge (pc := 9) (tgt := 26) dX0_digit_9 (by decide) ((s_X0_digit_26 G l Q)) <| xo_aload_n (pc := 12) (i := 0) dX0_digit_12 rfl <| xo_get (pc := 13) (ci := 1) (i := 0) rfl ok1 (by decide) dX0_digit_13 kw76 <| xo_iload_n (pc := 16) (i := 1) dX0_digit_16 rfl <| xo_iald (pc := 17) dX0_digit_17 <| xo_i2l (pc := 18) dX0_digit_18 <| xo_ldc2_w (pc := 19) dX0_digit_19 kw531 <| xo_land (pc := 22) dX0_digit_22 <| xo_goto (pc := 23) (tgt := 27) dX0_digit_23 (by decide) <| (s_X0_digit_27 G l Q)

def dgt (f : Nat → Int32) (n : Nat) (i : Int32) : Nat := if 0 ≤ i.toInt ∧ i.toInt < n then wn (f i.toInt.toNat) else 0
def C_X0_digit : xC := fun av S Q => ∃ a f n i, bigR S.1 a f n ∧ av = [.ref a, .int i] ∧ Q (some (.long (lN (dgt f n i)))) S
theorem cM_X0_digit (G : xG) (l : Launch) : xM G l yX0_digit cX0_digit 2 (some FieldType.long) r_X0_digit C_X0_digit := by
  refine xM_of (fun Q => b_X0_digit_0 Q) RX0 false (s_X0_digit_0 G l) (by decide) rfl (by decide) ?_
  rintro av S Q ⟨a, f, n, i, ⟨h1, h2, h3⟩, rfl, hQ⟩
  refine ⟨Nat.le_of_ble_eq_true rfl, ?_⟩
  simp only [x_c, x_iload, x_lload, x_aload, x_istore, x_lstore, x_astore, x_iinc, x_iadd, x_isub, x_imul, x_iand, x_ior, x_ixor, x_ladd, x_lsub, x_lmul, x_land, x_lor, x_lxor, x_idiv, x_irem, x_ldiv, x_lrem, x_ineg, x_lneg, x_ishl, x_ishr, x_iushr, x_lshl, x_lshr, x_lushr, x_i2l, x_l2i, x_i2b, x_i2c, x_lcmp, x_if_eq, x_if_ne, x_if_lt, x_if_ge, x_if_gt, x_if_le, x_icmp_eq, x_icmp_ne, x_icmp_lt, x_icmp_ge, x_icmp_gt, x_icmp_le, x_dup, x_pop, x_dup_x1, x_dup2, x_iret, x_zret, x_lret, x_aret, x_vret, x_call, x_callv, x_calli, x_oinit, x_mmax, x_mmin, x_mabs, x_mmaxL, x_mminL, x_mabsL, lg_cmp_ge, lg_cmp_le, lg_cmp_gt, lg_cmp_lt, lg_cmp_eq, xlk, xs1, xs2, lv_args, Value.category, List.filter_cons, List.filter_nil, Nat.reduceAdd, Nat.reduceBEq, Nat.reduceEqDiff, Nat.reduceSub, Nat.sub_zero, beq_self_eq_true, Bool.not_true, Bool.not_false, Bool.and_true, Bool.and_false, Bool.true_and, Bool.false_and, reduceIte, reduceCtorEq, Bool.false_eq_true, Nat.one_ne_zero, Nat.zero_ne_one, Nat.zero_add, Option.toList_some, Option.toList_none, List.nil_append, List.cons_append, List.take_succ_cons, List.take_zero, List.take_nil, List.drop_succ_cons, List.drop_zero, List.length_cons, List.length_nil, List.reverse_cons, List.reverse_nil, List.head?_cons, List.map_cons, List.map_nil, List.sum_cons, List.sum_nil, true_and, and_true, List.getElem?_cons_zero, List.getElem?_cons_succ, Prod.eta, x_get, x_put, x_iald, x_iast, x_bald, x_bast, x_lald, x_last, x_alen, xup_s, xup_a1, xup_1a, xup_uu, nr_i, nr_l, nr_o, nr_a, ft_i, ft_l, ft_o, ft_a, Nat.reduceLT, i_cl0, i_cl1, i_n1, i_m1, List.set_cons_zero, List.set_cons_succ, Nat.reduceLeDiff, Nat.le_refl, Nat.zero_le, Nat.add_zero, b_X0_digit_0, b_X0_digit_26, b_X0_digit_27, h1, h2]
  simp only [i_lt, i_le, i_0, nI_toInt (show n < 2 ^ 31 by omega), vp_in_iff, wn_mask]
  unfold dgt at hQ
  refine ⟨fun hi => ?_, fun hi => ⟨fun hn => ?_, fun hn => ⟨⟨by omega, by omega⟩, ?_⟩⟩⟩
  · rw [if_neg (by omega)] at hQ; exact hQ
  · rw [if_neg (by omega)] at hQ; exact hQ
  · rw [if_pos (by omega)] at hQ; exact hQ
theorem dX0_become_0 : decode cX0_become 0 = .ok (.aload_n 0, 1) := by decide +kernel
theorem dX0_become_1 : decode cX0_become 1 = .ok (.getfield 9, 3) := by decide +kernel
theorem dX0_become_4 : decode cX0_become 4 = .ok (.iconst 0, 1) := by decide +kernel
theorem dX0_become_5 : decode cX0_become 5 = .ok (.lload_n 1, 1) := by decide +kernel
theorem dX0_become_6 : decode cX0_become 6 = .ok (.l2i, 1) := by decide +kernel
theorem dX0_become_7 : decode cX0_become 7 = .ok (.iastore, 1) := by decide +kernel
theorem dX0_become_8 : decode cX0_become 8 = .ok (.aload_n 0, 1) := by decide +kernel
theorem dX0_become_9 : decode cX0_become 9 = .ok (.getfield 9, 3) := by decide +kernel
theorem dX0_become_12 : decode cX0_become 12 = .ok (.iconst 1, 1) := by decide +kernel
theorem dX0_become_13 : decode cX0_become 13 = .ok (.lload_n 1, 1) := by decide +kernel
theorem dX0_become_14 : decode cX0_become 14 = .ok (.bipush 32, 2) := by decide +kernel
theorem dX0_become_16 : decode cX0_become 16 = .ok (.lushr, 1) := by decide +kernel
theorem dX0_become_17 : decode cX0_become 17 = .ok (.l2i, 1) := by decide +kernel
theorem dX0_become_18 : decode cX0_become 18 = .ok (.iastore, 1) := by decide +kernel
theorem dX0_become_19 : decode cX0_become 19 = .ok (.aload_n 0, 1) := by decide +kernel
theorem dX0_become_20 : decode cX0_become 20 = .ok (.aload_n 0, 1) := by decide +kernel
theorem dX0_become_21 : decode cX0_become 21 = .ok (.getfield 9, 3) := by decide +kernel
theorem dX0_become_24 : decode cX0_become 24 = .ok (.iconst 1, 1) := by decide +kernel
theorem dX0_become_25 : decode cX0_become 25 = .ok (.iaload, 1) := by decide +kernel
theorem dX0_become_26 : decode cX0_become 26 = .ok (.ifCond .eq 7, 3) := by decide +kernel
theorem dX0_become_29 : decode cX0_become 29 = .ok (.iconst 2, 1) := by decide +kernel
theorem dX0_become_30 : decode cX0_become 30 = .ok (.goto 17, 3) := by decide +kernel
theorem dX0_become_33 : decode cX0_become 33 = .ok (.aload_n 0, 1) := by decide +kernel
theorem dX0_become_34 : decode cX0_become 34 = .ok (.getfield 9, 3) := by decide +kernel
theorem dX0_become_37 : decode cX0_become 37 = .ok (.iconst 0, 1) := by decide +kernel
theorem dX0_become_38 : decode cX0_become 38 = .ok (.iaload, 1) := by decide +kernel
theorem dX0_become_39 : decode cX0_become 39 = .ok (.ifCond .eq 7, 3) := by decide +kernel
theorem dX0_become_42 : decode cX0_become 42 = .ok (.iconst 1, 1) := by decide +kernel
theorem dX0_become_43 : decode cX0_become 43 = .ok (.goto 4, 3) := by decide +kernel
theorem dX0_become_46 : decode cX0_become 46 = .ok (.iconst 0, 1) := by decide +kernel
theorem dX0_become_47 : decode cX0_become 47 = .ok (.putfield 13, 3) := by decide +kernel
theorem dX0_become_50 : decode cX0_become 50 = .ok (.return_, 1) := by decide +kernel
abbrev r_X0_become : Room := { frames := 0, cells := 0, slots := 0, locals := 0 }
abbrev m_X0_become : xMd := (cX0_become, RX0, 3, none, false, r_X0_become)
def b_X0_become_47 (Q : xQ) : xK := x_put 1 1 .int <| x_vret Q
def b_X0_become_0 (Q : xQ) : xK := x_aload 0 <| x_get 1 0 <| x_c (.int 0) <| x_lload 1 <| x_l2i <| x_iast <| x_aload 0 <| x_get 1 0 <| x_c (.int 1) <| x_lload 1 <| x_c (.int 32) <| x_lushr <| x_l2i <| x_iast <| x_aload 0 <| x_aload 0 <| x_get 1 0 <| x_c (.int 1) <| x_iald <| x_if_eq (x_aload 0 <| x_get 1 0 <| x_c (.int 0) <| x_iald <| x_if_eq (x_c (.int 0) <| (b_X0_become_47 Q)) <| x_c (.int 1) <| (b_X0_become_47 Q)) <| x_c (.int 2) <| (b_X0_become_47 Q)
theorem s_X0_become_47 (G : xG) (l : Launch) (Q : xQ) : xW G l m_X0_become xX0 (xPm G Q r_X0_become) 47 (b_X0_become_47 Q) := xo_put (pc := 47) (ci := 1) (i := 1) rfl ok1 (by decide) rfl rfl dX0_become_47 kw77 <| xo_vret (pc := 50) rfl dX0_become_50
theorem s_X0_become_0 (G : xG) (l : Launch) (Q : xQ) : xW G l m_X0_become xX0 (xPm G Q r_X0_become) 0 (b_X0_become_0 Q) := xo_aload_n (pc := 0) (i := 0) dX0_become_0 rfl <| xo_get (pc := 1) (ci := 1) (i := 0) rfl ok1 (by decide) dX0_become_1 kw76 <| xo_iconst (pc := 4) dX0_become_4 (by decide) <| xo_lload_n (pc := 5) (i := 1) dX0_become_5 rfl <| xo_l2i (pc := 6) dX0_become_6 <| xo_iast (pc := 7) dX0_become_7 <| xo_aload_n (pc := 8) (i := 0) dX0_become_8 rfl <| xo_get (pc := 9) (ci := 1) (i := 0) rfl ok1 (by decide) dX0_become_9 kw76 <| xo_iconst (pc := 12) dX0_become_12 (by decide) <| xo_lload_n (pc := 13) (i := 1) dX0_become_13 rfl <| xo_bipush (pc := 14) dX0_become_14 (by decide) <| xo_lushr (pc := 16) dX0_become_16 <| xo_l2i (pc := 17) dX0_become_17 <| xo_iast (pc := 18) dX0_become_18 <| xo_aload_n (pc := 19) (i := 0) dX0_become_19 rfl <| xo_aload_n (pc := 20) (i := 0) dX0_become_20 rfl <| xo_get (pc := 21) (ci := 1) (i := 0) rfl ok1 (by decide) dX0_become_21 kw76 <| xo_iconst (pc := 24) dX0_become_24 (by decide) <| xo_iald (pc := 25) dX0_become_25 <| xo_if_eq (pc := 26) (tgt := 33) dX0_become_26 (by decide) (xo_aload_n (pc := 33) (i := 0) dX0_become_33 rfl <| xo_get (pc := 34) (ci := 1) (i := 0) rfl ok1 (by decide) dX0_become_34 kw76 <| xo_iconst (pc := 37) dX0_become_37 (by decide) <| xo_iald (pc := 38) dX0_become_38 <| xo_if_eq (pc := 39) (tgt := 46) dX0_become_39 (by decide) (xo_iconst (pc := 46) dX0_become_46 (by decide) <| (s_X0_become_47 G l Q)) <| xo_iconst (pc := 42) dX0_become_42 (by decide) <| xo_goto (pc := 43) (tgt := 47) dX0_become_43 (by decide) <| (s_X0_become_47 G l Q)) <| xo_iconst (pc := 29) dX0_become_29 (by decide) <| xo_goto (pc := 30) (tgt := 47) dX0_become_30 (by decide) <| (s_X0_become_47 G l Q)

def C_X0_become : xC := fun av S Q => ∃ a f n x, bigR S.1 a f n ∧ av = [.ref a, .long x] ∧ ∀ h', xoff h' S.1 a (a + 2) → bigV h' a (uN x) → Q none (h', S.2)
theorem cM_X0_become (G : xG) (l : Launch) : xM G l yX0_become cX0_become 3 none r_X0_become C_X0_become := by
  refine xM_of (fun Q => b_X0_become_0 Q) RX0 false (s_X0_become_0 G l) (by decide) rfl (by decide) ?_
  rintro av S Q ⟨a, f, n, x, ⟨h1, h2, h3⟩, rfl, hQ⟩
  refine ⟨Nat.le_of_ble_eq_true rfl, ?_⟩
  obtain ⟨u, hu, rfl⟩ := wb_of x
  rw [uN_lN hu] at hQ
  simp only [x_c, x_iload, x_lload, x_aload, x_istore, x_lstore, x_astore, x_iinc, x_iadd, x_isub, x_imul, x_iand, x_ior, x_ixor, x_ladd, x_lsub, x_lmul, x_land, x_lor, x_lxor, x_idiv, x_irem, x_ldiv, x_lrem, x_ineg, x_lneg, x_ishl, x_ishr, x_iushr, x_lshl, x_lshr, x_lushr, x_i2l, x_l2i, x_i2b, x_i2c, x_lcmp, x_if_eq, x_if_ne, x_if_lt, x_if_ge, x_if_gt, x_if_le, x_icmp_eq, x_icmp_ne, x_icmp_lt, x_icmp_ge, x_icmp_gt, x_icmp_le, x_dup, x_pop, x_dup_x1, x_dup2, x_iret, x_zret, x_lret, x_aret, x_vret, x_call, x_callv, x_calli, x_oinit, x_mmax, x_mmin, x_mabs, x_mmaxL, x_mminL, x_mabsL, lg_cmp_ge, lg_cmp_le, lg_cmp_gt, lg_cmp_lt, lg_cmp_eq, xlk, xs1, xs2, lv_args, Value.category, List.filter_cons, List.filter_nil, Nat.reduceAdd, Nat.reduceBEq, Nat.reduceEqDiff, Nat.reduceSub, Nat.sub_zero, beq_self_eq_true, Bool.not_true, Bool.not_false, Bool.and_true, Bool.and_false, Bool.true_and, Bool.false_and, reduceIte, reduceCtorEq, Bool.false_eq_true, Nat.one_ne_zero, Nat.zero_ne_one, Nat.zero_add, Option.toList_some, Option.toList_none, List.nil_append, List.cons_append, List.take_succ_cons, List.take_zero, List.take_nil, List.drop_succ_cons, List.drop_zero, List.length_cons, List.length_nil, List.reverse_cons, List.reverse_nil, List.head?_cons, List.map_cons, List.map_nil, List.sum_cons, List.sum_nil, true_and, and_true, List.getElem?_cons_zero, List.getElem?_cons_succ, Prod.eta, x_get, x_put, x_iald, x_iast, x_bald, x_bast, x_lald, x_last, x_alen, xup_s, xup_a1, xup_1a, xup_uu, nr_i, nr_l, nr_o, nr_a, ft_i, ft_l, ft_o, ft_a, Nat.reduceLT, i_cl0, i_cl1, i_n1, i_m1, List.set_cons_zero, List.set_cons_succ, Nat.reduceLeDiff, Nat.le_refl, Nat.zero_le, Nat.add_zero, b_X0_become_0, b_X0_become_47, h1, h2, lN_l2i, lN_ush32 hu]
  have e0 : upd (upd f 0 (nI u)) 1 (nI (u / 2 ^ 32)) 0 = nI u := by rw [pk_un (by omega), pk_us]
  have e1 : upd (upd f 0 (nI u)) 1 (nI (u / 2 ^ 32)) 1 = nI (u / 2 ^ 32) := pk_us
  have w0 := wn_nI u
  have w1 := wn_nI (u / 2 ^ 32)
  rw [e0, e1, wn_0, wn_0, w0, w1]
  refine ⟨vi_0, vi_1, vi_1, fun z1 => ⟨vi_0, fun z0 => ?_, fun z0 => ?_⟩, fun z1 => ?_⟩
  · refine hQ _ (xoff_up (xoff_up xoff_rf (by omega) (by omega)) (by omega) (by omega)) ⟨_, 0, ⟨xup_s, by rw [xup_1a, xup_s], by omega⟩, ?_, by omega⟩
    show 0 = u
    omega
  · refine hQ _ (xoff_up (xoff_up xoff_rf (by omega) (by omega)) (by omega) (by omega)) ⟨_, 1, ⟨xup_s, by rw [xup_1a, xup_s], by omega⟩, ?_, fun _ => ?_⟩
    · rw [bv_1, e0, w0]; omega
    · show ¬ upd (upd f 0 (nI u)) 1 (nI (u / 2 ^ 32)) 0 = 0
      rw [e0, wn_0, w0]; exact z0
  · refine hQ _ (xoff_up (xoff_up xoff_rf (by omega) (by omega)) (by omega) (by omega)) ⟨_, 2, ⟨xup_s, by rw [xup_1a, xup_s], by omega⟩, ?_, fun _ => ?_⟩
    · rw [bv_2, e0, e1, w0, w1]; omega
    · show ¬ upd (upd f 0 (nI u)) 1 (nI (u / 2 ^ 32)) 1 = 0
      rw [e1, wn_0, w1]; exact z1
theorem dX0_copy_0 : decode cX0_copy 0 = .ok (.iconst 0, 1) := by decide +kernel
theorem dX0_copy_1 : decode cX0_copy 1 = .ok (.istore_n 2, 1) := by decide +kernel
theorem dX0_copy_2 : decode cX0_copy 2 = .ok (.iload_n 2, 1) := by decide +kernel
theorem dX0_copy_3 : decode cX0_copy 3 = .ok (.aload_n 1, 1) := by decide +kernel
theorem dX0_copy_4 : decode cX0_copy 4 = .ok (.getfield 13, 3) := by decide +kernel
theorem dX0_copy_7 : decode cX0_copy 7 = .ok (.if_icmp .ge 21, 3) := by decide +kernel
theorem dX0_copy_10 : decode cX0_copy 10 = .ok (.aload_n 0, 1) := by decide +kernel
theorem dX0_copy_11 : decode cX0_copy 11 = .ok (.getfield 9, 3) := by decide +kernel
theorem dX0_copy_14 : decode cX0_copy 14 = .ok (.iload_n 2, 1) := by decide +kernel
theorem dX0_copy_15 : decode cX0_copy 15 = .ok (.aload_n 1, 1) := by decide +kernel
theorem dX0_copy_16 : decode cX0_copy 16 = .ok (.getfield 9, 3) := by decide +kernel
theorem dX0_copy_19 : decode cX0_copy 19 = .ok (.iload_n 2, 1) := by decide +kernel
theorem dX0_copy_20 : decode cX0_copy 20 = .ok (.iaload, 1) := by decide +kernel
theorem dX0_copy_21 : decode cX0_copy 21 = .ok (.iastore, 1) := by decide +kernel
theorem dX0_copy_22 : decode cX0_copy 22 = .ok (.iinc 2 1, 3) := by decide +kernel
theorem dX0_copy_25 : decode cX0_copy 25 = .ok (.goto (-23), 3) := by decide +kernel
theorem dX0_copy_28 : decode cX0_copy 28 = .ok (.aload_n 0, 1) := by decide +kernel
theorem dX0_copy_29 : decode cX0_copy 29 = .ok (.aload_n 1, 1) := by decide +kernel
theorem dX0_copy_30 : decode cX0_copy 30 = .ok (.getfield 13, 3) := by decide +kernel
theorem dX0_copy_33 : decode cX0_copy 33 = .ok (.putfield 13, 3) := by decide +kernel
theorem dX0_copy_36 : decode cX0_copy 36 = .ok (.return_, 1) := by decide +kernel
abbrev r_X0_copy : Room := { frames := 0, cells := 0, slots := 0, locals := 0 }
abbrev m_X0_copy : xMd := (cX0_copy, RX0, 3, none, false, r_X0_copy)
def b_X0_copy_0 (Q : xQ) (K2 : xK) : xK := x_c (.int 0) <| x_istore 2 <| K2
def b_X0_copy_2 (Q : xQ) (K2 : xK) : xK := x_iload 2 <| x_aload 1 <| x_get 1 1 <| x_icmp_ge (x_aload 0 <| x_aload 1 <| x_get 1 1 <| x_put 1 1 .int <| x_vret Q) <| x_aload 0 <| x_get 1 0 <| x_iload 2 <| x_aload 1 <| x_get 1 0 <| x_iload 2 <| x_iald <| x_iast <| x_iinc 2 1 <| K2
theorem s_X0_copy_0 (G : xG) (l : Launch) (Q : xQ) (K2 : xK) (h2 : xW G l m_X0_copy xX0 (xPm G Q r_X0_copy) 2 K2) : xW G l m_X0_copy xX0 (xPm G Q r_X0_copy) 0 (b_X0_copy_0 Q K2) := xo_iconst (pc := 0) dX0_copy_0 (by decide) <| xo_istore_n (pc := 1) (i := 2) dX0_copy_1 rfl (by decide) <| h2
theorem s_X0_copy_2 (G : xG) (l : Launch) (Q : xQ) (K2 : xK) (h2 : xW G l m_X0_copy xX0 (xPm G Q r_X0_copy) 2 K2) : xW G l m_X0_copy xX0 (xPm G Q r_X0_copy) 2 (b_X0_copy_2 Q K2) := xo_iload_n (pc := 2) (i := 2) dX0_copy_2 rfl <| xo_aload_n (pc := 3) (i := 1) dX0_copy_3 rfl <| xo_get (pc := 4) (ci := 1) (i := 1) rfl ok1 (by decide) dX0_copy_4 kw77 <| xo_icmp_ge (pc := 7) (tgt := 28) dX0_copy_7 (by decide) (xo_aload_n (pc := 28) (i := 0) dX0_copy_28 rfl <| xo_aload_n (pc := 29) (i := 1) dX0_copy_29 rfl <| xo_get (pc := 30) (ci := 1) (i := 1) rfl ok1 (by decide) dX0_copy_30 kw77 <| xo_put (pc := 33) (ci := 1) (i := 1) rfl ok1 (by decide) rfl rfl dX0_copy_33 kw77 <| xo_vret (pc := 36) rfl dX0_copy_36) <| xo_aload_n (pc := 10) (i := 0) dX0_copy_10 rfl <| xo_get (pc := 11) (ci := 1) (i := 0) rfl ok1 (by decide) dX0_copy_11 kw76 <| xo_iload_n (pc := 14) (i := 2) dX0_copy_14 rfl <| xo_aload_n (pc := 15) (i := 1) dX0_copy_15 rfl <| xo_get (pc := 16) (ci := 1) (i := 0) rfl ok1 (by decide) dX0_copy_16 kw76 <| xo_iload_n (pc := 19) (i := 2) dX0_copy_19 rfl <| xo_iald (pc := 20) dX0_copy_20 <| xo_iast (pc := 21) dX0_copy_21 <| xo_iinc (pc := 22) dX0_copy_22 (by decide) <| xo_goto (pc := 25) (tgt := 2) dX0_copy_25 (by decide) <| h2

def C_X0_copy : xC := fun av S Q => ∃ a b v, av = [.ref a, .ref b] ∧ (a + 2 ≤ b ∨ b + 2 ≤ a) ∧ (∃ f n, bigR S.1 a f n) ∧ bigV S.1 b v ∧ ∀ h', xoff h' S.1 a (a + 2) → bigV h' a v → Q none (h', S.2)
def cn_X0_copy : Nat × Nat × Nat → List (Nat × Value) := fun v => [(0, .ref v.1), (1, .ref v.2.1), (2, .int (nI v.2.2))]
def I_X0_copy (Q : xQ) : Nat → Nat × Nat × Nat → xS → Prop := fun k v S => ∃ f g n m, bigR S.1 v.1 f n ∧ bigR S.1 v.2.1 g m ∧ (v.1 + 2 ≤ v.2.1 ∨ v.2.1 + 2 ≤ v.1) ∧ k + v.2.2 = m ∧ (∀ i, i < v.2.2 → f i = g i) ∧ ∀ h', xoff h' S.1 v.1 (v.1 + 2) → (∃ f', bigR h' v.1 f' m ∧ ∀ i, i < m → f' i = g i) → Q none (h', S.2)
theorem cM_X0_copy (G : xG) (l : Launch) : xM G l yX0_copy cX0_copy 3 none r_X0_copy C_X0_copy := by
  refine xM_of (fun Q => b_X0_copy_0 Q (xInv cn_X0_copy (I_X0_copy Q))) RX0 false (fun Q => s_X0_copy_0 G l Q _ (xW.lp (b_X0_copy_2 Q) (fun K hK => s_X0_copy_2 G l Q K hK) ?_)) (by decide) rfl (by decide) ?_
  · rintro k ⟨a, b, i⟩ S ⟨f, g, n, m, ⟨h1, h2, h3⟩, ⟨g1, g2, g3⟩, hd, hk, hi, hQ⟩
    dsimp only at *
    simp only [x_c, x_iload, x_lload, x_aload, x_istore, x_lstore, x_astore, x_iinc, x_iadd, x_isub, x_imul, x_iand, x_ior, x_ixor, x_ladd, x_lsub, x_lmul, x_land, x_lor, x_lxor, x_idiv, x_irem, x_ldiv, x_lrem, x_ineg, x_lneg, x_ishl, x_ishr, x_iushr, x_lshl, x_lshr, x_lushr, x_i2l, x_l2i, x_i2b, x_i2c, x_lcmp, x_if_eq, x_if_ne, x_if_lt, x_if_ge, x_if_gt, x_if_le, x_icmp_eq, x_icmp_ne, x_icmp_lt, x_icmp_ge, x_icmp_gt, x_icmp_le, x_dup, x_pop, x_dup_x1, x_dup2, x_iret, x_zret, x_lret, x_aret, x_vret, x_call, x_callv, x_calli, x_oinit, x_mmax, x_mmin, x_mabs, x_mmaxL, x_mminL, x_mabsL, lg_cmp_ge, lg_cmp_le, lg_cmp_gt, lg_cmp_lt, lg_cmp_eq, xlk, xs1, xs2, lv_args, Value.category, List.filter_cons, List.filter_nil, Nat.reduceAdd, Nat.reduceBEq, Nat.reduceEqDiff, Nat.reduceSub, Nat.sub_zero, beq_self_eq_true, Bool.not_true, Bool.not_false, Bool.and_true, Bool.and_false, Bool.true_and, Bool.false_and, reduceIte, reduceCtorEq, Bool.false_eq_true, Nat.one_ne_zero, Nat.zero_ne_one, Nat.zero_add, Option.toList_some, Option.toList_none, List.nil_append, List.cons_append, List.take_succ_cons, List.take_zero, List.take_nil, List.drop_succ_cons, List.drop_zero, List.length_cons, List.length_nil, List.reverse_cons, List.reverse_nil, List.head?_cons, List.map_cons, List.map_nil, List.sum_cons, List.sum_nil, true_and, and_true, List.getElem?_cons_zero, List.getElem?_cons_succ, Prod.eta, x_get, x_put, x_iald, x_iast, x_bald, x_bast, x_lald, x_last, x_alen, xup_s, xup_a1, xup_1a, xup_uu, nr_i, nr_l, nr_o, nr_a, ft_i, ft_l, ft_o, ft_a, Nat.reduceLT, i_cl0, i_cl1, i_n1, i_m1, List.set_cons_zero, List.set_cons_succ, Nat.reduceLeDiff, Nat.le_refl, Nat.zero_le, Nat.add_zero, b_X0_copy_2, cn_X0_copy, h1, h2, g1, g2]
    simp only [nI_leI (show m < 2 ^ 31 by omega) (show i < 2 ^ 31 by omega), nI_clamp (show i < 2 ^ 31 by omega)]
    refine ⟨fun q => ?_, fun q => ⟨vp_in_nI (by omega) (by decide), vp_in_nI (by omega) (by decide), ?_⟩⟩
    · obtain rfl : i = m := by omega
      exact hQ _ (xoff_up xoff_rf (by omega) (by omega)) ⟨f, ⟨xup_s, by rw [xup_1a]; exact h2, g3⟩, hi⟩
    · have r1 : bigR S.1 a f n := ⟨h1, h2, h3⟩
      have r2 : bigR S.1 b g m := ⟨g1, g2, g3⟩
      refine xInvL.mk (k - 1) (a, b, i + 1) (by omega) ⟨rfl, rfl, rfl, trivial⟩ ⟨upd f i (g i), g, n, m, r1.wr _, r2.off off_wr (by omega), hd, by dsimp only; omega, fun j hj => ?_, fun h' o' r' => hQ h' (xoff_tr o' off_wr) r'⟩
      by_cases e : j = i
      · subst e; exact pk_us
      · rw [pk_un e]; exact hi j (by dsimp only at hj; omega)
  · rintro av S Q ⟨a, b, v, rfl, hd, ⟨f, n, hf⟩, ⟨g, m, hg, hv, hz⟩, hQ⟩
    refine ⟨Nat.le_of_ble_eq_true rfl, ?_⟩
    simp only [x_c, x_iload, x_lload, x_aload, x_istore, x_lstore, x_astore, x_iinc, x_iadd, x_isub, x_imul, x_iand, x_ior, x_ixor, x_ladd, x_lsub, x_lmul, x_land, x_lor, x_lxor, x_idiv, x_irem, x_ldiv, x_lrem, x_ineg, x_lneg, x_ishl, x_ishr, x_iushr, x_lshl, x_lshr, x_lushr, x_i2l, x_l2i, x_i2b, x_i2c, x_lcmp, x_if_eq, x_if_ne, x_if_lt, x_if_ge, x_if_gt, x_if_le, x_icmp_eq, x_icmp_ne, x_icmp_lt, x_icmp_ge, x_icmp_gt, x_icmp_le, x_dup, x_pop, x_dup_x1, x_dup2, x_iret, x_zret, x_lret, x_aret, x_vret, x_call, x_callv, x_calli, x_oinit, x_mmax, x_mmin, x_mabs, x_mmaxL, x_mminL, x_mabsL, lg_cmp_ge, lg_cmp_le, lg_cmp_gt, lg_cmp_lt, lg_cmp_eq, xlk, xs1, xs2, lv_args, Value.category, List.filter_cons, List.filter_nil, Nat.reduceAdd, Nat.reduceBEq, Nat.reduceEqDiff, Nat.reduceSub, Nat.sub_zero, beq_self_eq_true, Bool.not_true, Bool.not_false, Bool.and_true, Bool.and_false, Bool.true_and, Bool.false_and, reduceIte, reduceCtorEq, Bool.false_eq_true, Nat.one_ne_zero, Nat.zero_ne_one, Nat.zero_add, Option.toList_some, Option.toList_none, List.nil_append, List.cons_append, List.take_succ_cons, List.take_zero, List.take_nil, List.drop_succ_cons, List.drop_zero, List.length_cons, List.length_nil, List.reverse_cons, List.reverse_nil, List.head?_cons, List.map_cons, List.map_nil, List.sum_cons, List.sum_nil, true_and, and_true, List.getElem?_cons_zero, List.getElem?_cons_succ, Prod.eta, x_get, x_put, x_iald, x_iast, x_bald, x_bast, x_lald, x_last, x_alen, xup_s, xup_a1, xup_1a, xup_uu, nr_i, nr_l, nr_o, nr_a, ft_i, ft_l, ft_o, ft_a, Nat.reduceLT, i_cl0, i_cl1, i_n1, i_m1, List.set_cons_zero, List.set_cons_succ, Nat.reduceLeDiff, Nat.le_refl, Nat.zero_le, Nat.add_zero, b_X0_copy_0]
    refine xInv.mk m (a, b, 0) ⟨rfl, rfl, rfl, trivial⟩ ⟨f, g, n, m, hf, hg, hd, rfl, fun i hi => absurd hi (Nat.not_lt_zero _), fun h' o' r' => hQ h' o' ?_⟩
    obtain ⟨f', hf', he⟩ := r'
    exact ⟨f', m, hf', by rw [← hv]; exact bv_congr he, fun q => by rw [he _ (by omega)]; exact hz q⟩
theorem dJ13_compare_74951_0 : decode cJ13_compare_74951 0 = .ok (.lload_n 0, 1) := by decide +kernel
theorem dJ13_compare_74951_1 : decode cJ13_compare_74951 1 = .ok (.lload_n 2, 1) := by decide +kernel
theorem dJ13_compare_74951_2 : decode cJ13_compare_74951 2 = .ok (.lcmp, 1) := by decide +kernel
theorem dJ13_compare_74951_3 : decode cJ13_compare_74951 3 = .ok (.ifCond .ge 7, 3) := by decide +kernel
theorem dJ13_compare_74951_6 : decode cJ13_compare_74951 6 = .ok (.iconst (-1), 1) := by decide +kernel
theorem dJ13_compare_74951_7 : decode cJ13_compare_74951 7 = .ok (.goto 14, 3) := by decide +kernel
theorem dJ13_compare_74951_10 : decode cJ13_compare_74951 10 = .ok (.lload_n 0, 1) := by decide +kernel
theorem dJ13_compare_74951_11 : decode cJ13_compare_74951 11 = .ok (.lload_n 2, 1) := by decide +kernel
theorem dJ13_compare_74951_12 : decode cJ13_compare_74951 12 = .ok (.lcmp, 1) := by decide +kernel
theorem dJ13_compare_74951_13 : decode cJ13_compare_74951 13 = .ok (.ifCond .ne 7, 3) := by decide +kernel
theorem dJ13_compare_74951_16 : decode cJ13_compare_74951 16 = .ok (.iconst 0, 1) := by decide +kernel
theorem dJ13_compare_74951_17 : decode cJ13_compare_74951 17 = .ok (.goto 4, 3) := by decide +kernel
theorem dJ13_compare_74951_20 : decode cJ13_compare_74951 20 = .ok (.iconst 1, 1) := by decide +kernel
theorem dJ13_compare_74951_21 : decode cJ13_compare_74951 21 = .ok (.ireturn, 1) := by decide +kernel
abbrev r_J13_compare_74951 : Room := { frames := 0, cells := 0, slots := 0, locals := 0 }
abbrev m_J13_compare_74951 : xMd := (cJ13_compare_74951, RJ13, 4, (some FieldType.int), false, r_J13_compare_74951)
def b_J13_compare_74951_21 (Q : xQ) : xK := x_iret Q
def b_J13_compare_74951_0 (Q : xQ) : xK := x_lload 0 <| x_lload 2 <| x_lcmp <| x_if_ge (x_lload 0 <| x_lload 2 <| x_lcmp <| x_if_ne (x_c (.int 1) <| (b_J13_compare_74951_21 Q)) <| x_c (.int 0) <| (b_J13_compare_74951_21 Q)) <| x_c (.int (-1)) <| (b_J13_compare_74951_21 Q)
theorem s_J13_compare_74951_21 (G : xG) (l : Launch) (Q : xQ) : xW G l m_J13_compare_74951 xX0 (xPm G Q r_J13_compare_74951) 21 (b_J13_compare_74951_21 Q) := xo_iret (pc := 21) rfl dJ13_compare_74951_21
theorem s_J13_compare_74951_0 (G : xG) (l : Launch) (Q : xQ) : xW G l m_J13_compare_74951 xX0 (xPm G Q r_J13_compare_74951) 0 (b_J13_compare_74951_0 Q) := xo_lload_n (pc := 0) (i := 0) dJ13_compare_74951_0 rfl <| xo_lload_n (pc := 1) (i := 2) dJ13_compare_74951_1 rfl <| xo_lcmp (pc := 2) dJ13_compare_74951_2 <| xo_if_ge (pc := 3) (tgt := 10) dJ13_compare_74951_3 (by decide) (xo_lload_n (pc := 10) (i := 0) dJ13_compare_74951_10 rfl <| xo_lload_n (pc := 11) (i := 2) dJ13_compare_74951_11 rfl <| xo_lcmp (pc := 12) dJ13_compare_74951_12 <| xo_if_ne (pc := 13) (tgt := 20) dJ13_compare_74951_13 (by decide) (xo_iconst (pc := 20) dJ13_compare_74951_20 (by decide) <| (s_J13_compare_74951_21 G l Q)) <| xo_iconst (pc := 16) dJ13_compare_74951_16 (by decide) <| xo_goto (pc := 17) (tgt := 21) dJ13_compare_74951_17 (by decide) <| (s_J13_compare_74951_21 G l Q)) <| xo_iconst (pc := 6) dJ13_compare_74951_6 (by decide) <| xo_goto (pc := 7) (tgt := 21) dJ13_compare_74951_7 (by decide) <| (s_J13_compare_74951_21 G l Q)

def C_J13_compare_74951 : xC := fun av S Q => ∃ x y, av = [.long x, .long y] ∧ Q (some (.int (if x < y then -1 else if x = y then 0 else 1))) S
theorem cM_J13_compare_74951 (G : xG) (l : Launch) : xM G l yJ13_compare_74951 cJ13_compare_74951 4 (some FieldType.int) r_J13_compare_74951 C_J13_compare_74951 := by
  refine xM_of (fun Q => b_J13_compare_74951_0 Q) RJ13 false (s_J13_compare_74951_0 G l) (by decide) rfl (by decide) ?_
  rintro av S Q ⟨x, y, rfl, hQ⟩
  refine ⟨Nat.le_of_ble_eq_true rfl, ?_⟩
  simp only [x_c, x_iload, x_lload, x_aload, x_istore, x_lstore, x_astore, x_iinc, x_iadd, x_isub, x_imul, x_iand, x_ior, x_ixor, x_ladd, x_lsub, x_lmul, x_land, x_lor, x_lxor, x_idiv, x_irem, x_ldiv, x_lrem, x_ineg, x_lneg, x_ishl, x_ishr, x_iushr, x_lshl, x_lshr, x_lushr, x_i2l, x_l2i, x_i2b, x_i2c, x_lcmp, x_if_eq, x_if_ne, x_if_lt, x_if_ge, x_if_gt, x_if_le, x_icmp_eq, x_icmp_ne, x_icmp_lt, x_icmp_ge, x_icmp_gt, x_icmp_le, x_dup, x_pop, x_dup_x1, x_dup2, x_iret, x_zret, x_lret, x_aret, x_vret, x_call, x_callv, x_calli, x_oinit, x_mmax, x_mmin, x_mabs, x_mmaxL, x_mminL, x_mabsL, lg_cmp_ge, lg_cmp_le, lg_cmp_gt, lg_cmp_lt, lg_cmp_eq, xlk, xs1, xs2, lv_args, Value.category, List.filter_cons, List.filter_nil, Nat.reduceAdd, Nat.reduceBEq, Nat.reduceEqDiff, Nat.reduceSub, Nat.sub_zero, beq_self_eq_true, Bool.not_true, Bool.not_false, Bool.and_true, Bool.and_false, Bool.true_and, Bool.false_and, reduceIte, reduceCtorEq, Bool.false_eq_true, Nat.one_ne_zero, Nat.zero_ne_one, Nat.zero_add, Option.toList_some, Option.toList_none, List.nil_append, List.cons_append, List.take_succ_cons, List.take_zero, List.take_nil, List.drop_succ_cons, List.drop_zero, List.length_cons, List.length_nil, List.reverse_cons, List.reverse_nil, List.head?_cons, List.map_cons, List.map_nil, List.sum_cons, List.sum_nil, true_and, and_true, List.getElem?_cons_zero, List.getElem?_cons_succ, Prod.eta, x_get, x_put, x_iald, x_iast, x_bald, x_bast, x_lald, x_last, x_alen, xup_s, xup_a1, xup_1a, xup_uu, nr_i, nr_l, nr_o, nr_a, ft_i, ft_l, ft_o, ft_a, Nat.reduceLT, i_cl0, i_cl1, i_n1, i_m1, List.set_cons_zero, List.set_cons_succ, Nat.reduceLeDiff, Nat.le_refl, Nat.zero_le, Nat.add_zero, b_J13_compare_74951_0, b_J13_compare_74951_21]
  have e1 : ¬ y ≤ x ↔ x < y := by rw [l_le, l_lt]; omega
  refine ⟨fun h => ⟨fun h2 => ?_, fun h2 => ?_⟩, fun h => ?_⟩
  · rw [if_neg (fun q => e1.mpr q h), if_neg h2] at hQ; exact hQ
  · rw [if_neg (fun q => e1.mpr q h), if_pos h2] at hQ; exact hQ
  · rw [if_pos (e1.mp h)] at hQ; exact hQ
theorem dX0_isUnit_0 : decode cX0_isUnit 0 = .ok (.aload_n 0, 1) := by decide +kernel
theorem dX0_isUnit_1 : decode cX0_isUnit 1 = .ok (.getfield 13, 3) := by decide +kernel
theorem dX0_isUnit_4 : decode cX0_isUnit 4 = .ok (.iconst 1, 1) := by decide +kernel
theorem dX0_isUnit_5 : decode cX0_isUnit 5 = .ok (.if_icmp .ne 17, 3) := by decide +kernel
theorem dX0_isUnit_8 : decode cX0_isUnit 8 = .ok (.aload_n 0, 1) := by decide +kernel
theorem dX0_isUnit_9 : decode cX0_isUnit 9 = .ok (.getfield 9, 3) := by decide +kernel
theorem dX0_isUnit_12 : decode cX0_isUnit 12 = .ok (.iconst 0, 1) := by decide +kernel
theorem dX0_isUnit_13 : decode cX0_isUnit 13 = .ok (.iaload, 1) := by decide +kernel
theorem dX0_isUnit_14 : decode cX0_isUnit 14 = .ok (.iconst 1, 1) := by decide +kernel
theorem dX0_isUnit_15 : decode cX0_isUnit 15 = .ok (.if_icmp .ne 7, 3) := by decide +kernel
theorem dX0_isUnit_18 : decode cX0_isUnit 18 = .ok (.iconst 1, 1) := by decide +kernel
theorem dX0_isUnit_19 : decode cX0_isUnit 19 = .ok (.goto 4, 3) := by decide +kernel
theorem dX0_isUnit_22 : decode cX0_isUnit 22 = .ok (.iconst 0, 1) := by decide +kernel
theorem dX0_isUnit_23 : decode cX0_isUnit 23 = .ok (.ireturn, 1) := by decide +kernel
abbrev r_X0_isUnit : Room := { frames := 0, cells := 0, slots := 0, locals := 0 }
abbrev m_X0_isUnit : xMd := (cX0_isUnit, RX0, 1, (some FieldType.boolean), false, r_X0_isUnit)
def b_X0_isUnit_23 (Q : xQ) : xK := x_zret FieldType.boolean Q
def b_X0_isUnit_22 (Q : xQ) : xK := x_c (.int 0) <| (b_X0_isUnit_23 Q)
def b_X0_isUnit_0 (Q : xQ) : xK := x_aload 0 <| x_get 1 1 <| x_c (.int 1) <| x_icmp_ne ((b_X0_isUnit_22 Q)) <| x_aload 0 <| x_get 1 0 <| x_c (.int 0) <| x_iald <| x_c (.int 1) <| x_icmp_ne ((b_X0_isUnit_22 Q)) <| x_c (.int 1) <| (b_X0_isUnit_23 Q)
theorem s_X0_isUnit_23 (G : xG) (l : Launch) (Q : xQ) : xW G l m_X0_isUnit xX0 (xPm G Q r_X0_isUnit) 23 (b_X0_isUnit_23 Q) := xo_zret (pc := 23) rfl dX0_isUnit_23
theorem s_X0_isUnit_22 (G : xG) (l : Launch) (Q : xQ) : xW G l m_X0_isUnit xX0 (xPm G Q r_X0_isUnit) 22 (b_X0_isUnit_22 Q) := xo_iconst (pc := 22) dX0_isUnit_22 (by decide) <| (s_X0_isUnit_23 G l Q)
theorem s_X0_isUnit_0 (G : xG) (l : Launch) (Q : xQ) : xW G l m_X0_isUnit xX0 (xPm G Q r_X0_isUnit) 0 (b_X0_isUnit_0 Q) := xo_aload_n (pc := 0) (i := 0) dX0_isUnit_0 rfl <| xo_get (pc := 1) (ci := 1) (i := 1) rfl ok1 (by decide) dX0_isUnit_1 kw77 <| xo_iconst (pc := 4) dX0_isUnit_4 (by decide) <| xo_icmp_ne (pc := 5) (tgt := 22) dX0_isUnit_5 (by decide) ((s_X0_isUnit_22 G l Q)) <| xo_aload_n (pc := 8) (i := 0) dX0_isUnit_8 rfl <| xo_get (pc := 9) (ci := 1) (i := 0) rfl ok1 (by decide) dX0_isUnit_9 kw76 <| xo_iconst (pc := 12) dX0_isUnit_12 (by decide) <| xo_iald (pc := 13) dX0_isUnit_13 <| xo_iconst (pc := 14) dX0_isUnit_14 (by decide) <| xo_icmp_ne (pc := 15) (tgt := 22) dX0_isUnit_15 (by decide) ((s_X0_isUnit_22 G l Q)) <| xo_iconst (pc := 18) dX0_isUnit_18 (by decide) <| xo_goto (pc := 19) (tgt := 23) dX0_isUnit_19 (by decide) <| (s_X0_isUnit_23 G l Q)

def C_X0_isUnit : xC := fun av S Q => ∃ a v, av = [.ref a] ∧ bigV S.1 a v ∧ Q (some (.int (if v = 1 then 1 else 0))) S
theorem cM_X0_isUnit (G : xG) (l : Launch) : xM G l yX0_isUnit cX0_isUnit 1 (some FieldType.boolean) r_X0_isUnit C_X0_isUnit := by
  refine xM_of (fun Q => b_X0_isUnit_0 Q) RX0 false (s_X0_isUnit_0 G l) (by decide) rfl (by decide) ?_
  rintro av S Q ⟨a, v, rfl, ⟨f, n, ⟨h1, h2, h3⟩, hv, hz⟩, hQ⟩
  refine ⟨Nat.le_of_ble_eq_true rfl, ?_⟩
  simp only [x_c, x_iload, x_lload, x_aload, x_istore, x_lstore, x_astore, x_iinc, x_iadd, x_isub, x_imul, x_iand, x_ior, x_ixor, x_ladd, x_lsub, x_lmul, x_land, x_lor, x_lxor, x_idiv, x_irem, x_ldiv, x_lrem, x_ineg, x_lneg, x_ishl, x_ishr, x_iushr, x_lshl, x_lshr, x_lushr, x_i2l, x_l2i, x_i2b, x_i2c, x_lcmp, x_if_eq, x_if_ne, x_if_lt, x_if_ge, x_if_gt, x_if_le, x_icmp_eq, x_icmp_ne, x_icmp_lt, x_icmp_ge, x_icmp_gt, x_icmp_le, x_dup, x_pop, x_dup_x1, x_dup2, x_iret, x_zret, x_lret, x_aret, x_vret, x_call, x_callv, x_calli, x_oinit, x_mmax, x_mmin, x_mabs, x_mmaxL, x_mminL, x_mabsL, lg_cmp_ge, lg_cmp_le, lg_cmp_gt, lg_cmp_lt, lg_cmp_eq, xlk, xs1, xs2, lv_args, Value.category, List.filter_cons, List.filter_nil, Nat.reduceAdd, Nat.reduceBEq, Nat.reduceEqDiff, Nat.reduceSub, Nat.sub_zero, beq_self_eq_true, Bool.not_true, Bool.not_false, Bool.and_true, Bool.and_false, Bool.true_and, Bool.false_and, reduceIte, reduceCtorEq, Bool.false_eq_true, Nat.one_ne_zero, Nat.zero_ne_one, Nat.zero_add, Option.toList_some, Option.toList_none, List.nil_append, List.cons_append, List.take_succ_cons, List.take_zero, List.take_nil, List.drop_succ_cons, List.drop_zero, List.length_cons, List.length_nil, List.reverse_cons, List.reverse_nil, List.head?_cons, List.map_cons, List.map_nil, List.sum_cons, List.sum_nil, true_and, and_true, List.getElem?_cons_zero, List.getElem?_cons_succ, Prod.eta, x_get, x_put, x_iald, x_iast, x_bald, x_bast, x_lald, x_last, x_alen, xup_s, xup_a1, xup_1a, xup_uu, nr_i, nr_l, nr_o, nr_a, ft_i, ft_l, ft_o, ft_a, Nat.reduceLT, i_cl0, i_cl1, i_n1, i_m1, List.set_cons_zero, List.set_cons_succ, Nat.reduceLeDiff, Nat.le_refl, Nat.zero_le, Nat.add_zero, b_X0_isUnit_0, b_X0_isUnit_22, b_X0_isUnit_23, h1, h2]
  have en : nI n = 1 ↔ n = 1 := nI_eq (b := 1) (by omega) (by decide)
  have ew : f 0 = 1 ↔ wn (f 0) = 1 := ⟨fun q => by rw [q]; decide, fun q => wn_inj (q.trans (by decide))⟩
  rw [en]
  refine ⟨fun q => ⟨rfl, ?_⟩, fun q => ⟨vi_0, fun w => ⟨rfl, ?_⟩, fun w => ⟨rfl, ?_⟩⟩⟩
  · rw [if_neg] at hQ
    · exact hQ
    · intro e
      rcases Nat.lt_or_ge n 1 with z | z
      · rw [show n = 0 by omega] at hv; rw [← hv] at e; cases e
      · have := bv_top (by omega) (hz (by omega))
        rw [hv, e] at this
        have h5 : 2 ^ 32 ≤ 2 ^ (32 * (n - 1)) := Nat.pow_le_pow_right (by decide) (by omega)
        omega
  · rw [if_neg] at hQ
    · exact hQ
    · subst q; rw [← hv, bv_1]; exact fun e => w (ew.mpr e)
  · rw [if_pos] at hQ
    · exact hQ
    · subst q; rw [← hv, bv_1]; exact ew.mp w
theorem dX0_order_0 : decode cX0_order 0 = .ok (.aload_n 0, 1) := by decide +kernel
theorem dX0_order_1 : decode cX0_order 1 = .ok (.getfield 13, 3) := by decide +kernel
theorem dX0_order_4 : decode cX0_order 4 = .ok (.aload_n 1, 1) := by decide +kernel
theorem dX0_order_5 : decode cX0_order 5 = .ok (.getfield 13, 3) := by decide +kernel
theorem dX0_order_8 : decode cX0_order 8 = .ok (.invokestatic 25, 3) := by decide +kernel
theorem dX0_order_11 : decode cX0_order 11 = .ok (.iconst 1, 1) := by decide +kernel
theorem dX0_order_12 : decode cX0_order 12 = .ok (.isub, 1) := by decide +kernel
theorem dX0_order_13 : decode cX0_order 13 = .ok (.istore_n 2, 1) := by decide +kernel
theorem dX0_order_14 : decode cX0_order 14 = .ok (.iload_n 2, 1) := by decide +kernel
theorem dX0_order_15 : decode cX0_order 15 = .ok (.ifCond .lt 29, 3) := by decide +kernel
theorem dX0_order_18 : decode cX0_order 18 = .ok (.aload_n 0, 1) := by decide +kernel
theorem dX0_order_19 : decode cX0_order 19 = .ok (.iload_n 2, 1) := by decide +kernel
theorem dX0_order_20 : decode cX0_order 20 = .ok (.invokevirtual 31, 3) := by decide +kernel
theorem dX0_order_23 : decode cX0_order 23 = .ok (.aload_n 1, 1) := by decide +kernel
theorem dX0_order_24 : decode cX0_order 24 = .ok (.iload_n 2, 1) := by decide +kernel
theorem dX0_order_25 : decode cX0_order 25 = .ok (.invokevirtual 31, 3) := by decide +kernel
theorem dX0_order_28 : decode cX0_order 28 = .ok (.invokestatic 35, 3) := by decide +kernel
theorem dX0_order_31 : decode cX0_order 31 = .ok (.istore_n 3, 1) := by decide +kernel
theorem dX0_order_32 : decode cX0_order 32 = .ok (.iload_n 3, 1) := by decide +kernel
theorem dX0_order_33 : decode cX0_order 33 = .ok (.ifCond .eq 5, 3) := by decide +kernel
theorem dX0_order_36 : decode cX0_order 36 = .ok (.iload_n 3, 1) := by decide +kernel
theorem dX0_order_37 : decode cX0_order 37 = .ok (.ireturn, 1) := by decide +kernel
theorem dX0_order_38 : decode cX0_order 38 = .ok (.iinc 2 (-1), 3) := by decide +kernel
theorem dX0_order_41 : decode cX0_order 41 = .ok (.goto (-27), 3) := by decide +kernel
theorem dX0_order_44 : decode cX0_order 44 = .ok (.iconst 0, 1) := by decide +kernel
theorem dX0_order_45 : decode cX0_order 45 = .ok (.ireturn, 1) := by decide +kernel
abbrev r_X0_order : Room := { frames := 1, cells := 0, slots := 0, locals := 23 }
abbrev m_X0_order : xMd := (cX0_order, RX0, 4, (some FieldType.int), false, r_X0_order)
def b_X0_order_0 (Q : xQ) (K14 : xK) : xK := x_aload 0 <| x_get 1 1 <| x_aload 1 <| x_get 1 1 <| x_mmax <| x_c (.int 1) <| x_isub <| x_istore 2 <| K14
def b_X0_order_14 (Q : xQ) (K14 : xK) : xK := x_iload 2 <| x_if_lt (x_c (.int 0) <| x_iret Q) <| x_aload 0 <| x_iload 2 <| x_callv 1 C_X0_digit 2 0 0 <| x_aload 1 <| x_iload 2 <| x_callv 1 C_X0_digit 2 0 0 <| x_call C_J13_compare_74951 2 0 0 <| x_istore 3 <| x_iload 3 <| x_if_eq (x_iinc 2 (-1) <| K14) <| x_iload 3 <| x_iret Q
theorem s_X0_order_0 (G : xG) (l : Launch) (Q : xQ) (K14 : xK) (h14 : xW G l m_X0_order xX0 (xPm G Q r_X0_order) 14 K14) : xW G l m_X0_order xX0 (xPm G Q r_X0_order) 0 (b_X0_order_0 Q K14) := xo_aload_n (pc := 0) (i := 0) dX0_order_0 rfl <| xo_get (pc := 1) (ci := 1) (i := 1) rfl ok1 (by decide) dX0_order_1 kw77 <| xo_aload_n (pc := 4) (i := 1) dX0_order_4 rfl <| xo_get (pc := 5) (ci := 1) (i := 1) rfl ok1 (by decide) dX0_order_5 kw77 <| xo_mmax (pc := 8) dX0_order_8 kw595 kw537 kw17 kw538 (by decide) <| xo_iconst (pc := 11) dX0_order_11 (by decide) <| xo_isub (pc := 12) dX0_order_12 <| xo_istore_n (pc := 13) (i := 2) dX0_order_13 rfl (by decide) <| h14
theorem s_X0_order_14 (G : xG) (l : Launch) (Q : xQ) (K14 : xK) (h14 : xW G l m_X0_order xX0 (xPm G Q r_X0_order) 14 K14) : xW G l m_X0_order xX0 (xPm G Q r_X0_order) 14 (b_X0_order_14 Q K14) := xo_iload_n (pc := 14) (i := 2) dX0_order_14 rfl <| xo_if_lt (pc := 15) (tgt := 44) dX0_order_15 (by decide) (xo_iconst (pc := 44) dX0_order_44 (by decide) <| xo_iret (pc := 45) rfl dX0_order_45) <| xo_aload_n (pc := 18) (i := 0) dX0_order_18 rfl <| xo_iload_n (pc := 19) (i := 2) dX0_order_19 rfl <| xo_callV (pc := 20) (np := 1) (ci := 1) rfl (cM_X0_digit G l) dX0_order_20 kw587 kw584 kw585 kw586 kw6 (by decide +kernel) (by decide) <| xo_aload_n (pc := 23) (i := 1) dX0_order_23 rfl <| xo_iload_n (pc := 24) (i := 2) dX0_order_24 rfl <| xo_callV (pc := 25) (np := 1) (ci := 1) rfl (cM_X0_digit G l) dX0_order_25 kw587 kw584 kw585 kw586 kw6 (by decide +kernel) (by decide) <| xo_callS (pc := 28) (np := 2) (cM_J13_compare_74951 G l) dX0_order_28 kw598 kw596 kw597 kw24 (by decide +kernel) (by decide) <| xo_istore_n (pc := 31) (i := 3) dX0_order_31 rfl (by decide) <| xo_iload_n (pc := 32) (i := 3) dX0_order_32 rfl <| xo_if_eq (pc := 33) (tgt := 38) dX0_order_33 (by decide) (xo_iinc (pc := 38) dX0_order_38 (by decide) <| xo_goto (pc := 41) (tgt := 14) dX0_order_41 (by decide) <| h14) <| xo_iload_n (pc := 36) (i := 3) dX0_order_36 rfl <| xo_iret (pc := 37) rfl dX0_order_37

theorem dgt_nI (f : Nat → Int32) (n : Nat) {j : Nat} (h : j < 2 ^ 31) : dgt f n (nI j) = dg f n j := by
  unfold dgt dg
  rw [nI_toInt h]
  by_cases q : j < n
  · rw [if_pos (by omega), if_pos q]; rfl
  · rw [if_neg (by omega), if_neg q]
def C_X0_order : xC := fun av S Q => ∃ a b u v, av = [.ref a, .ref b] ∧ bigV S.1 a u ∧ bigV S.1 b v ∧ Q (some (.int (if u < v then -1 else if u = v then 0 else 1))) S
def cn_X0_order : Nat × Nat × Int32 → List (Nat × Value) := fun v => [(0, .ref v.1), (1, .ref v.2.1), (2, .int v.2.2)]
def I_X0_order (Q : xQ) : Nat → Nat × Nat × Int32 → xS → Prop := fun k v S => ∃ f g n m, bigR S.1 v.1 f n ∧ bigR S.1 v.2.1 g m ∧ k ≤ max n m ∧ v.2.2 = nI k - 1 ∧ (∀ j, k ≤ j → dg f n j = dg g m j) ∧ Q (some (.int (if bv f n < bv g m then -1 else if bv f n = bv g m then 0 else 1))) S
theorem cM_X0_order (G : xG) (l : Launch) : xM G l yX0_order cX0_order 4 (some FieldType.int) r_X0_order C_X0_order := by
  refine xM_of (fun Q => b_X0_order_0 Q (xInv cn_X0_order (I_X0_order Q))) RX0 false (fun Q => s_X0_order_0 G l Q _ (xW.lp (b_X0_order_14 Q) (fun K hK => s_X0_order_14 G l Q K hK) ?_)) (by decide) rfl (by decide) ?_
  · rintro k ⟨a, b, i⟩ S ⟨f, g, n, m, ⟨h1, h2, h3⟩, ⟨g1, g2, g3⟩, hk, hi, hd, hQ⟩
    dsimp only at *
    have rA : bigR S.1 a f n := ⟨h1, h2, h3⟩
    have rB : bigR S.1 b g m := ⟨g1, g2, g3⟩
    simp only [x_c, x_iload, x_lload, x_aload, x_istore, x_lstore, x_astore, x_iinc, x_iadd, x_isub, x_imul, x_iand, x_ior, x_ixor, x_ladd, x_lsub, x_lmul, x_land, x_lor, x_lxor, x_idiv, x_irem, x_ldiv, x_lrem, x_ineg, x_lneg, x_ishl, x_ishr, x_iushr, x_lshl, x_lshr, x_lushr, x_i2l, x_l2i, x_i2b, x_i2c, x_lcmp, x_if_eq, x_if_ne, x_if_lt, x_if_ge, x_if_gt, x_if_le, x_icmp_eq, x_icmp_ne, x_icmp_lt, x_icmp_ge, x_icmp_gt, x_icmp_le, x_dup, x_pop, x_dup_x1, x_dup2, x_iret, x_zret, x_lret, x_aret, x_vret, x_call, x_callv, x_calli, x_oinit, x_mmax, x_mmin, x_mabs, x_mmaxL, x_mminL, x_mabsL, lg_cmp_ge, lg_cmp_le, lg_cmp_gt, lg_cmp_lt, lg_cmp_eq, xlk, xs1, xs2, lv_args, Value.category, List.filter_cons, List.filter_nil, Nat.reduceAdd, Nat.reduceBEq, Nat.reduceEqDiff, Nat.reduceSub, Nat.sub_zero, beq_self_eq_true, Bool.not_true, Bool.not_false, Bool.and_true, Bool.and_false, Bool.true_and, Bool.false_and, reduceIte, reduceCtorEq, Bool.false_eq_true, Nat.one_ne_zero, Nat.zero_ne_one, Nat.zero_add, Option.toList_some, Option.toList_none, List.nil_append, List.cons_append, List.take_succ_cons, List.take_zero, List.take_nil, List.drop_succ_cons, List.drop_zero, List.length_cons, List.length_nil, List.reverse_cons, List.reverse_nil, List.head?_cons, List.map_cons, List.map_nil, List.sum_cons, List.sum_nil, true_and, and_true, List.getElem?_cons_zero, List.getElem?_cons_succ, Prod.eta, x_get, x_put, x_iald, x_iast, x_bald, x_bast, x_lald, x_last, x_alen, xup_s, xup_a1, xup_1a, xup_uu, nr_i, nr_l, nr_o, nr_a, ft_i, ft_l, ft_o, ft_a, Nat.reduceLT, i_cl0, i_cl1, i_n1, i_m1, List.set_cons_zero, List.set_cons_succ, Nat.reduceLeDiff, Nat.le_refl, Nat.zero_le, Nat.add_zero, b_X0_order_14, cn_X0_order]
    have hn0 : max n m ≤ 200 := by omega
    cases k with
    | zero =>
      have e : i < 0 := by rw [hi]; decide
      refine ⟨fun _ => ?_, fun q => absurd e q⟩
      have e2 : bv f n = bv g m := by
        rw [bv_dg (f := f) (Nat.le_max_left n m), bv_dg (f := g) (Nat.le_max_right n m)]
        exact sd_congr fun j _ => hd j (Nat.zero_le j)
      rw [if_neg (by omega), if_pos e2] at hQ
      exact hQ
    | succ k =>
      rw [nI_pred] at hi
      subst hi
      refine ⟨fun q => absurd q (nI_pos (by omega)), fun _ => ⟨⟨a, _, rfl, h1⟩, a, f, n, _, rA, rfl, ?_⟩⟩
      simp only [x_c, x_iload, x_lload, x_aload, x_istore, x_lstore, x_astore, x_iinc, x_iadd, x_isub, x_imul, x_iand, x_ior, x_ixor, x_ladd, x_lsub, x_lmul, x_land, x_lor, x_lxor, x_idiv, x_irem, x_ldiv, x_lrem, x_ineg, x_lneg, x_ishl, x_ishr, x_iushr, x_lshl, x_lshr, x_lushr, x_i2l, x_l2i, x_i2b, x_i2c, x_lcmp, x_if_eq, x_if_ne, x_if_lt, x_if_ge, x_if_gt, x_if_le, x_icmp_eq, x_icmp_ne, x_icmp_lt, x_icmp_ge, x_icmp_gt, x_icmp_le, x_dup, x_pop, x_dup_x1, x_dup2, x_iret, x_zret, x_lret, x_aret, x_vret, x_call, x_callv, x_calli, x_oinit, x_mmax, x_mmin, x_mabs, x_mmaxL, x_mminL, x_mabsL, lg_cmp_ge, lg_cmp_le, lg_cmp_gt, lg_cmp_lt, lg_cmp_eq, xlk, xs1, xs2, lv_args, Value.category, List.filter_cons, List.filter_nil, Nat.reduceAdd, Nat.reduceBEq, Nat.reduceEqDiff, Nat.reduceSub, Nat.sub_zero, beq_self_eq_true, Bool.not_true, Bool.not_false, Bool.and_true, Bool.and_false, Bool.true_and, Bool.false_and, reduceIte, reduceCtorEq, Bool.false_eq_true, Nat.one_ne_zero, Nat.zero_ne_one, Nat.zero_add, Option.toList_some, Option.toList_none, List.nil_append, List.cons_append, List.take_succ_cons, List.take_zero, List.take_nil, List.drop_succ_cons, List.drop_zero, List.length_cons, List.length_nil, List.reverse_cons, List.reverse_nil, List.head?_cons, List.map_cons, List.map_nil, List.sum_cons, List.sum_nil, true_and, and_true, List.getElem?_cons_zero, List.getElem?_cons_succ, Prod.eta, x_get, x_put, x_iald, x_iast, x_bald, x_bast, x_lald, x_last, x_alen, xup_s, xup_a1, xup_1a, xup_uu, nr_i, nr_l, nr_o, nr_a, ft_i, ft_l, ft_o, ft_a, Nat.reduceLT, i_cl0, i_cl1, i_n1, i_m1, List.set_cons_zero, List.set_cons_succ, Nat.reduceLeDiff, Nat.le_refl, Nat.zero_le, Nat.add_zero]
      refine ⟨⟨b, _, rfl, g1⟩, b, g, m, _, rB, rfl, ?_⟩
      simp only [x_c, x_iload, x_lload, x_aload, x_istore, x_lstore, x_astore, x_iinc, x_iadd, x_isub, x_imul, x_iand, x_ior, x_ixor, x_ladd, x_lsub, x_lmul, x_land, x_lor, x_lxor, x_idiv, x_irem, x_ldiv, x_lrem, x_ineg, x_lneg, x_ishl, x_ishr, x_iushr, x_lshl, x_lshr, x_lushr, x_i2l, x_l2i, x_i2b, x_i2c, x_lcmp, x_if_eq, x_if_ne, x_if_lt, x_if_ge, x_if_gt, x_if_le, x_icmp_eq, x_icmp_ne, x_icmp_lt, x_icmp_ge, x_icmp_gt, x_icmp_le, x_dup, x_pop, x_dup_x1, x_dup2, x_iret, x_zret, x_lret, x_aret, x_vret, x_call, x_callv, x_calli, x_oinit, x_mmax, x_mmin, x_mabs, x_mmaxL, x_mminL, x_mabsL, lg_cmp_ge, lg_cmp_le, lg_cmp_gt, lg_cmp_lt, lg_cmp_eq, xlk, xs1, xs2, lv_args, Value.category, List.filter_cons, List.filter_nil, Nat.reduceAdd, Nat.reduceBEq, Nat.reduceEqDiff, Nat.reduceSub, Nat.sub_zero, beq_self_eq_true, Bool.not_true, Bool.not_false, Bool.and_true, Bool.and_false, Bool.true_and, Bool.false_and, reduceIte, reduceCtorEq, Bool.false_eq_true, Nat.one_ne_zero, Nat.zero_ne_one, Nat.zero_add, Option.toList_some, Option.toList_none, List.nil_append, List.cons_append, List.take_succ_cons, List.take_zero, List.take_nil, List.drop_succ_cons, List.drop_zero, List.length_cons, List.length_nil, List.reverse_cons, List.reverse_nil, List.head?_cons, List.map_cons, List.map_nil, List.sum_cons, List.sum_nil, true_and, and_true, List.getElem?_cons_zero, List.getElem?_cons_succ, Prod.eta, x_get, x_put, x_iald, x_iast, x_bald, x_bast, x_lald, x_last, x_alen, xup_s, xup_a1, xup_1a, xup_uu, nr_i, nr_l, nr_o, nr_a, ft_i, ft_l, ft_o, ft_a, Nat.reduceLT, i_cl0, i_cl1, i_n1, i_m1, List.set_cons_zero, List.set_cons_succ, Nat.reduceLeDiff, Nat.le_refl, Nat.zero_le, Nat.add_zero]
      refine ⟨_, _, rfl, ?_⟩
      simp only [x_c, x_iload, x_lload, x_aload, x_istore, x_lstore, x_astore, x_iinc, x_iadd, x_isub, x_imul, x_iand, x_ior, x_ixor, x_ladd, x_lsub, x_lmul, x_land, x_lor, x_lxor, x_idiv, x_irem, x_ldiv, x_lrem, x_ineg, x_lneg, x_ishl, x_ishr, x_iushr, x_lshl, x_lshr, x_lushr, x_i2l, x_l2i, x_i2b, x_i2c, x_lcmp, x_if_eq, x_if_ne, x_if_lt, x_if_ge, x_if_gt, x_if_le, x_icmp_eq, x_icmp_ne, x_icmp_lt, x_icmp_ge, x_icmp_gt, x_icmp_le, x_dup, x_pop, x_dup_x1, x_dup2, x_iret, x_zret, x_lret, x_aret, x_vret, x_call, x_callv, x_calli, x_oinit, x_mmax, x_mmin, x_mabs, x_mmaxL, x_mminL, x_mabsL, lg_cmp_ge, lg_cmp_le, lg_cmp_gt, lg_cmp_lt, lg_cmp_eq, xlk, xs1, xs2, lv_args, Value.category, List.filter_cons, List.filter_nil, Nat.reduceAdd, Nat.reduceBEq, Nat.reduceEqDiff, Nat.reduceSub, Nat.sub_zero, beq_self_eq_true, Bool.not_true, Bool.not_false, Bool.and_true, Bool.and_false, Bool.true_and, Bool.false_and, reduceIte, reduceCtorEq, Bool.false_eq_true, Nat.one_ne_zero, Nat.zero_ne_one, Nat.zero_add, Option.toList_some, Option.toList_none, List.nil_append, List.cons_append, List.take_succ_cons, List.take_zero, List.take_nil, List.drop_succ_cons, List.drop_zero, List.length_cons, List.length_nil, List.reverse_cons, List.reverse_nil, List.head?_cons, List.map_cons, List.map_nil, List.sum_cons, List.sum_nil, true_and, and_true, List.getElem?_cons_zero, List.getElem?_cons_succ, Prod.eta, x_get, x_put, x_iald, x_iast, x_bald, x_bast, x_lald, x_last, x_alen, xup_s, xup_a1, xup_1a, xup_uu, nr_i, nr_l, nr_o, nr_a, ft_i, ft_l, ft_o, ft_a, Nat.reduceLT, i_cl0, i_cl1, i_n1, i_m1, List.set_cons_zero, List.set_cons_succ, Nat.reduceLeDiff, Nat.le_refl, Nat.zero_le, Nat.add_zero]
      rw [dgt_nI f n (by omega), dgt_nI g m (by omega)]
      have d1 := dg_lt f n k
      have d2 := dg_lt g m k
      simp only [pk_lLT (show dg f n k < 2 ^ 63 by omega) (show dg g m k < 2 ^ 63 by omega), pk_lEQ (show dg f n k < 2 ^ 63 by omega) (show dg g m k < 2 ^ 63 by omega)]
      have cA := bv_dg (f := f) (Nat.le_max_left n m)
      have cB := bv_dg (f := g) (Nat.le_max_right n m)
      rcases Nat.lt_trichotomy (dg f n k) (dg g m k) with q | q | q
      · rw [if_pos q]
        refine ⟨fun z => absurd z (by decide), fun _ => ?_⟩
        have := sd_cmp (B := 2 ^ 32) (d := dg f n) (e := dg g m) (n := max n m) (i := k) (by omega) (dg_lt f n) (fun j h1 _ => hd j h1) q
        rw [if_pos (by omega)] at hQ
        exact hQ
      · rw [if_neg (by omega), if_pos q]
        refine ⟨fun _ => ?_, fun z => absurd rfl z⟩
        refine xInvL.mk k (a, b, nI k - 1) (by omega) ⟨rfl, rfl, rfl, trivial⟩ ⟨f, g, n, m, rA, rB, by omega, rfl, fun j hj => ?_, hQ⟩
        rcases Nat.lt_or_ge k j with z | z
        · exact hd j z
        · rw [show j = k by omega]; exact q
      · rw [if_neg (by omega), if_neg (by omega)]
        refine ⟨fun z => absurd z (by decide), fun _ => ?_⟩
        have := sd_cmp (B := 2 ^ 32) (d := dg g m) (e := dg f n) (n := max n m) (i := k) (by omega) (dg_lt g m) (fun j h1 _ => (hd j h1).symm) q
        rw [if_neg (by omega), if_neg (by omega)] at hQ
        exact hQ
  · rintro av S Q ⟨a, b, u, v, rfl, ⟨f, n, hf, rfl, -⟩, ⟨g, m, hg, rfl, -⟩, hQ⟩
    refine ⟨Nat.le_of_ble_eq_true rfl, ?_⟩
    simp only [x_c, x_iload, x_lload, x_aload, x_istore, x_lstore, x_astore, x_iinc, x_iadd, x_isub, x_imul, x_iand, x_ior, x_ixor, x_ladd, x_lsub, x_lmul, x_land, x_lor, x_lxor, x_idiv, x_irem, x_ldiv, x_lrem, x_ineg, x_lneg, x_ishl, x_ishr, x_iushr, x_lshl, x_lshr, x_lushr, x_i2l, x_l2i, x_i2b, x_i2c, x_lcmp, x_if_eq, x_if_ne, x_if_lt, x_if_ge, x_if_gt, x_if_le, x_icmp_eq, x_icmp_ne, x_icmp_lt, x_icmp_ge, x_icmp_gt, x_icmp_le, x_dup, x_pop, x_dup_x1, x_dup2, x_iret, x_zret, x_lret, x_aret, x_vret, x_call, x_callv, x_calli, x_oinit, x_mmax, x_mmin, x_mabs, x_mmaxL, x_mminL, x_mabsL, lg_cmp_ge, lg_cmp_le, lg_cmp_gt, lg_cmp_lt, lg_cmp_eq, xlk, xs1, xs2, lv_args, Value.category, List.filter_cons, List.filter_nil, Nat.reduceAdd, Nat.reduceBEq, Nat.reduceEqDiff, Nat.reduceSub, Nat.sub_zero, beq_self_eq_true, Bool.not_true, Bool.not_false, Bool.and_true, Bool.and_false, Bool.true_and, Bool.false_and, reduceIte, reduceCtorEq, Bool.false_eq_true, Nat.one_ne_zero, Nat.zero_ne_one, Nat.zero_add, Option.toList_some, Option.toList_none, List.nil_append, List.cons_append, List.take_succ_cons, List.take_zero, List.take_nil, List.drop_succ_cons, List.drop_zero, List.length_cons, List.length_nil, List.reverse_cons, List.reverse_nil, List.head?_cons, List.map_cons, List.map_nil, List.sum_cons, List.sum_nil, true_and, and_true, List.getElem?_cons_zero, List.getElem?_cons_succ, Prod.eta, x_get, x_put, x_iald, x_iast, x_bald, x_bast, x_lald, x_last, x_alen, xup_s, xup_a1, xup_1a, xup_uu, nr_i, nr_l, nr_o, nr_a, ft_i, ft_l, ft_o, ft_a, Nat.reduceLT, i_cl0, i_cl1, i_n1, i_m1, List.set_cons_zero, List.set_cons_succ, Nat.reduceLeDiff, Nat.le_refl, Nat.zero_le, Nat.add_zero, b_X0_order_0, hf.1, hg.1]
    have e : (if nI n < nI m then nI m else nI n) = nI (max n m) := by
      have h1 := hf.2.2
      have h2 := hg.2.2
      simp only [nI_ltI (show n < 2 ^ 31 by omega) (show m < 2 ^ 31 by omega)]
      split
      · rw [show max n m = m by omega]
      · rw [show max n m = n by omega]
    rw [e]
    have h1 := hf.2.2
    have h2 := hg.2.2
    refine xInv.mk (max n m) (a, b, nI (max n m) - 1) ⟨rfl, rfl, rfl, trivial⟩ ⟨f, g, n, m, hf, hg, Nat.le_refl _, rfl, fun j hj => ?_, hQ⟩
    unfold dg
    rw [if_neg (by omega), if_neg (by omega)]
theorem dX0_push_0 : decode cX0_push 0 = .ok (.lload_n 1, 1) := by decide +kernel
theorem dX0_push_1 : decode cX0_push 1 = .ok (.lconst 0, 1) := by decide +kernel
theorem dX0_push_2 : decode cX0_push 2 = .ok (.lcmp, 1) := by decide +kernel
theorem dX0_push_3 : decode cX0_push 3 = .ok (.ifCond .eq 31, 3) := by decide +kernel
theorem dX0_push_6 : decode cX0_push 6 = .ok (.aload_n 0, 1) := by decide +kernel
theorem dX0_push_7 : decode cX0_push 7 = .ok (.getfield 13, 3) := by decide +kernel
theorem dX0_push_10 : decode cX0_push 10 = .ok (.sipush 200, 3) := by decide +kernel
theorem dX0_push_13 : decode cX0_push 13 = .ok (.if_icmp .ge 21, 3) := by decide +kernel
theorem dX0_push_16 : decode cX0_push 16 = .ok (.aload_n 0, 1) := by decide +kernel
theorem dX0_push_17 : decode cX0_push 17 = .ok (.getfield 9, 3) := by decide +kernel
theorem dX0_push_20 : decode cX0_push 20 = .ok (.aload_n 0, 1) := by decide +kernel
theorem dX0_push_21 : decode cX0_push 21 = .ok (.dup, 1) := by decide +kernel
theorem dX0_push_22 : decode cX0_push 22 = .ok (.getfield 13, 3) := by decide +kernel
theorem dX0_push_25 : decode cX0_push 25 = .ok (.dup_x1, 1) := by decide +kernel
theorem dX0_push_26 : decode cX0_push 26 = .ok (.iconst 1, 1) := by decide +kernel
theorem dX0_push_27 : decode cX0_push 27 = .ok (.iadd, 1) := by decide +kernel
theorem dX0_push_28 : decode cX0_push 28 = .ok (.putfield 13, 3) := by decide +kernel
theorem dX0_push_31 : decode cX0_push 31 = .ok (.lload_n 1, 1) := by decide +kernel
theorem dX0_push_32 : decode cX0_push 32 = .ok (.l2i, 1) := by decide +kernel
theorem dX0_push_33 : decode cX0_push 33 = .ok (.iastore, 1) := by decide +kernel
theorem dX0_push_34 : decode cX0_push 34 = .ok (.return_, 1) := by decide +kernel
abbrev r_X0_push : Room := { frames := 0, cells := 0, slots := 0, locals := 0 }
abbrev m_X0_push : xMd := (cX0_push, RX0, 3, none, false, r_X0_push)
def b_X0_push_34 (Q : xQ) : xK := x_vret Q
def b_X0_push_0 (Q : xQ) : xK := x_lload 1 <| x_c (.long 0) <| x_lcmp <| x_if_eq ((b_X0_push_34 Q)) <| x_aload 0 <| x_get 1 1 <| x_c (.int 200) <| x_icmp_ge ((b_X0_push_34 Q)) <| x_aload 0 <| x_get 1 0 <| x_aload 0 <| x_dup <| x_get 1 1 <| x_dup_x1 <| x_c (.int 1) <| x_iadd <| x_put 1 1 .int <| x_lload 1 <| x_l2i <| x_iast <| (b_X0_push_34 Q)
theorem s_X0_push_34 (G : xG) (l : Launch) (Q : xQ) : xW G l m_X0_push xX0 (xPm G Q r_X0_push) 34 (b_X0_push_34 Q) := xo_vret (pc := 34) rfl dX0_push_34
theorem s_X0_push_0 (G : xG) (l : Launch) (Q : xQ) : xW G l m_X0_push xX0 (xPm G Q r_X0_push) 0 (b_X0_push_0 Q) := xo_lload_n (pc := 0) (i := 1) dX0_push_0 rfl <| xo_lconst (pc := 1) dX0_push_1 (by decide) <| xo_lcmp (pc := 2) dX0_push_2 <| xo_if_eq (pc := 3) (tgt := 34) dX0_push_3 (by decide) ((s_X0_push_34 G l Q)) <| xo_aload_n (pc := 6) (i := 0) dX0_push_6 rfl <| xo_get (pc := 7) (ci := 1) (i := 1) rfl ok1 (by decide) dX0_push_7 kw77 <| xo_sipush (pc := 10) dX0_push_10 (by decide) <| xo_icmp_ge (pc := 13) (tgt := 34) dX0_push_13 (by decide) ((s_X0_push_34 G l Q)) <| xo_aload_n (pc := 16) (i := 0) dX0_push_16 rfl <| xo_get (pc := 17) (ci := 1) (i := 0) rfl ok1 (by decide) dX0_push_17 kw76 <| xo_aload_n (pc := 20) (i := 0) dX0_push_20 rfl <| xo_dup (pc := 21) dX0_push_21 <| xo_get (pc := 22) (ci := 1) (i := 1) rfl ok1 (by decide) dX0_push_22 kw77 <| xo_dup_x1 (pc := 25) dX0_push_25 <| xo_iconst (pc := 26) dX0_push_26 (by decide) <| xo_iadd (pc := 27) dX0_push_27 <| xo_put (pc := 28) (ci := 1) (i := 1) rfl ok1 (by decide) rfl rfl dX0_push_28 kw77 <| xo_lload_n (pc := 31) (i := 1) dX0_push_31 rfl <| xo_l2i (pc := 32) dX0_push_32 <| xo_iast (pc := 33) dX0_push_33 <| (s_X0_push_34 G l Q)

def C_X0_push : xC := fun av S Q => ∃ a f n c, av = [.ref a, .long (lN c)] ∧ bigR S.1 a f n ∧ c < 2 ^ 32 ∧ (c ≠ 0 → n < 200) ∧ ∀ h', xoff h' S.1 a (a + 2) → ((c = 0 ∧ bigR h' a f n) ∨ (c ≠ 0 ∧ bigR h' a (upd f n (nI c)) (n + 1))) → Q none (h', S.2)
theorem cM_X0_push (G : xG) (l : Launch) : xM G l yX0_push cX0_push 3 none r_X0_push C_X0_push := by
  refine xM_of (fun Q => b_X0_push_0 Q) RX0 false (s_X0_push_0 G l) (by decide) rfl (by decide) ?_
  rintro av S Q ⟨a, f, n, c, rfl, ⟨h1, h2, h3⟩, hc, hn, hQ⟩
  refine ⟨Nat.le_of_ble_eq_true rfl, ?_⟩
  have e0 : lN c = 0 ↔ c = 0 := pk_lEQ (b := 0) (by omega) (by decide)
  have en : (200 : Int32) ≤ nI n ↔ 200 ≤ n := nI_leI (a := 200) (by decide) (by omega)
  simp only [x_c, x_iload, x_lload, x_aload, x_istore, x_lstore, x_astore, x_iinc, x_iadd, x_isub, x_imul, x_iand, x_ior, x_ixor, x_ladd, x_lsub, x_lmul, x_land, x_lor, x_lxor, x_idiv, x_irem, x_ldiv, x_lrem, x_ineg, x_lneg, x_ishl, x_ishr, x_iushr, x_lshl, x_lshr, x_lushr, x_i2l, x_l2i, x_i2b, x_i2c, x_lcmp, x_if_eq, x_if_ne, x_if_lt, x_if_ge, x_if_gt, x_if_le, x_icmp_eq, x_icmp_ne, x_icmp_lt, x_icmp_ge, x_icmp_gt, x_icmp_le, x_dup, x_pop, x_dup_x1, x_dup2, x_iret, x_zret, x_lret, x_aret, x_vret, x_call, x_callv, x_calli, x_oinit, x_mmax, x_mmin, x_mabs, x_mmaxL, x_mminL, x_mabsL, lg_cmp_ge, lg_cmp_le, lg_cmp_gt, lg_cmp_lt, lg_cmp_eq, xlk, xs1, xs2, lv_args, Value.category, List.filter_cons, List.filter_nil, Nat.reduceAdd, Nat.reduceBEq, Nat.reduceEqDiff, Nat.reduceSub, Nat.sub_zero, beq_self_eq_true, Bool.not_true, Bool.not_false, Bool.and_true, Bool.and_false, Bool.true_and, Bool.false_and, reduceIte, reduceCtorEq, Bool.false_eq_true, Nat.one_ne_zero, Nat.zero_ne_one, Nat.zero_add, Option.toList_some, Option.toList_none, List.nil_append, List.cons_append, List.take_succ_cons, List.take_zero, List.take_nil, List.drop_succ_cons, List.drop_zero, List.length_cons, List.length_nil, List.reverse_cons, List.reverse_nil, List.head?_cons, List.map_cons, List.map_nil, List.sum_cons, List.sum_nil, true_and, and_true, List.getElem?_cons_zero, List.getElem?_cons_succ, Prod.eta, x_get, x_put, x_iald, x_iast, x_bald, x_bast, x_lald, x_last, x_alen, xup_s, xup_a1, xup_1a, xup_uu, nr_i, nr_l, nr_o, nr_a, ft_i, ft_l, ft_o, ft_a, Nat.reduceLT, i_cl0, i_cl1, i_n1, i_m1, List.set_cons_zero, List.set_cons_succ, Nat.reduceLeDiff, Nat.le_refl, Nat.zero_le, Nat.add_zero, b_X0_push_0, b_X0_push_34, h1, h2, e0, en, lN_l2i, nI_clamp (show n < 2 ^ 31 by omega)]
  have rA : bigR S.1 a f n := ⟨h1, h2, h3⟩
  refine ⟨fun z => hQ _ xoff_rf (Or.inl ⟨z, rA⟩), fun z => ⟨fun w => absurd (hn z) (by omega), fun w => ⟨vp_in_nI (by omega) (by decide), ?_⟩⟩⟩
  have e1 : nI n + 1 = nI (n + 1) := nI_1 n
  rw [e1]
  exact hQ _ (xoff_tr off_wr off_sz) (Or.inr ⟨z, (rA.sz (by omega)).wr _⟩)
theorem dX0_trim_0 : decode cX0_trim 0 = .ok (.aload_n 0, 1) := by decide +kernel
theorem dX0_trim_1 : decode cX0_trim 1 = .ok (.getfield 13, 3) := by decide +kernel
theorem dX0_trim_4 : decode cX0_trim 4 = .ok (.ifCond .le 30, 3) := by decide +kernel
theorem dX0_trim_7 : decode cX0_trim 7 = .ok (.aload_n 0, 1) := by decide +kernel
theorem dX0_trim_8 : decode cX0_trim 8 = .ok (.getfield 9, 3) := by decide +kernel
theorem dX0_trim_11 : decode cX0_trim 11 = .ok (.aload_n 0, 1) := by decide +kernel
theorem dX0_trim_12 : decode cX0_trim 12 = .ok (.getfield 13, 3) := by decide +kernel
theorem dX0_trim_15 : decode cX0_trim 15 = .ok (.iconst 1, 1) := by decide +kernel
theorem dX0_trim_16 : decode cX0_trim 16 = .ok (.isub, 1) := by decide +kernel
theorem dX0_trim_17 : decode cX0_trim 17 = .ok (.iaload, 1) := by decide +kernel
theorem dX0_trim_18 : decode cX0_trim 18 = .ok (.ifCond .ne 16, 3) := by decide +kernel
theorem dX0_trim_21 : decode cX0_trim 21 = .ok (.aload_n 0, 1) := by decide +kernel
theorem dX0_trim_22 : decode cX0_trim 22 = .ok (.dup, 1) := by decide +kernel
theorem dX0_trim_23 : decode cX0_trim 23 = .ok (.getfield 13, 3) := by decide +kernel
theorem dX0_trim_26 : decode cX0_trim 26 = .ok (.iconst 1, 1) := by decide +kernel
theorem dX0_trim_27 : decode cX0_trim 27 = .ok (.isub, 1) := by decide +kernel
theorem dX0_trim_28 : decode cX0_trim 28 = .ok (.putfield 13, 3) := by decide +kernel
theorem dX0_trim_31 : decode cX0_trim 31 = .ok (.goto (-31), 3) := by decide +kernel
theorem dX0_trim_34 : decode cX0_trim 34 = .ok (.return_, 1) := by decide +kernel
abbrev r_X0_trim : Room := { frames := 0, cells := 0, slots := 0, locals := 0 }
abbrev m_X0_trim : xMd := (cX0_trim, RX0, 1, none, false, r_X0_trim)
def b_X0_trim_34 (Q : xQ) (K0 : xK) : xK := x_vret Q
def b_X0_trim_0 (Q : xQ) (K0 : xK) : xK := x_aload 0 <| x_get 1 1 <| x_if_le ((b_X0_trim_34 Q K0)) <| x_aload 0 <| x_get 1 0 <| x_aload 0 <| x_get 1 1 <| x_c (.int 1) <| x_isub <| x_iald <| x_if_ne ((b_X0_trim_34 Q K0)) <| x_aload 0 <| x_dup <| x_get 1 1 <| x_c (.int 1) <| x_isub <| x_put 1 1 .int <| K0
theorem s_X0_trim_34 (G : xG) (l : Launch) (Q : xQ) (K0 : xK) (h0 : xW G l m_X0_trim xX0 (xPm G Q r_X0_trim) 0 K0) : xW G l m_X0_trim xX0 (xPm G Q r_X0_trim) 34 (b_X0_trim_34 Q K0) := xo_vret (pc := 34) rfl dX0_trim_34
theorem s_X0_trim_0 (G : xG) (l : Launch) (Q : xQ) (K0 : xK) (h0 : xW G l m_X0_trim xX0 (xPm G Q r_X0_trim) 0 K0) : xW G l m_X0_trim xX0 (xPm G Q r_X0_trim) 0 (b_X0_trim_0 Q K0) := xo_aload_n (pc := 0) (i := 0) dX0_trim_0 rfl <| xo_get (pc := 1) (ci := 1) (i := 1) rfl ok1 (by decide) dX0_trim_1 kw77 <| xo_if_le (pc := 4) (tgt := 34) dX0_trim_4 (by decide) ((s_X0_trim_34 G l Q K0 h0)) <| xo_aload_n (pc := 7) (i := 0) dX0_trim_7 rfl <| xo_get (pc := 8) (ci := 1) (i := 0) rfl ok1 (by decide) dX0_trim_8 kw76 <| xo_aload_n (pc := 11) (i := 0) dX0_trim_11 rfl <| xo_get (pc := 12) (ci := 1) (i := 1) rfl ok1 (by decide) dX0_trim_12 kw77 <| xo_iconst (pc := 15) dX0_trim_15 (by decide) <| xo_isub (pc := 16) dX0_trim_16 <| xo_iald (pc := 17) dX0_trim_17 <| xo_if_ne (pc := 18) (tgt := 34) dX0_trim_18 (by decide) ((s_X0_trim_34 G l Q K0 h0)) <| xo_aload_n (pc := 21) (i := 0) dX0_trim_21 rfl <| xo_dup (pc := 22) dX0_trim_22 <| xo_get (pc := 23) (ci := 1) (i := 1) rfl ok1 (by decide) dX0_trim_23 kw77 <| xo_iconst (pc := 26) dX0_trim_26 (by decide) <| xo_isub (pc := 27) dX0_trim_27 <| xo_put (pc := 28) (ci := 1) (i := 1) rfl ok1 (by decide) rfl rfl dX0_trim_28 kw77 <| xo_goto (pc := 31) (tgt := 0) dX0_trim_31 (by decide) <| h0

def C_X0_trim : xC := fun av S Q => ∃ a f n, av = [.ref a] ∧ bigR S.1 a f n ∧ ∀ h', xoff h' S.1 a (a + 2) → bigV h' a (bv f n) → Q none (h', S.2)
def cn_X0_trim : Nat → List (Nat × Value) := fun v => [(0, .ref v)]
def I_X0_trim (Q : xQ) : Nat → Nat → xS → Prop := fun k a S => ∃ f, bigR S.1 a f k ∧ ∀ h', xoff h' S.1 a (a + 2) → bigV h' a (bv f k) → Q none (h', S.2)
theorem cM_X0_trim (G : xG) (l : Launch) : xM G l yX0_trim cX0_trim 1 none r_X0_trim C_X0_trim := by
  refine xM_of (fun Q => xInv cn_X0_trim (I_X0_trim Q)) RX0 false (fun Q => (xW.lp (b_X0_trim_0 Q) (fun K hK => s_X0_trim_0 G l Q K hK) ?_)) (by decide) rfl (by decide) ?_
  · rintro k a S ⟨f, ⟨h1, h2, h3⟩, hQ⟩
    have rA : bigR S.1 a f k := ⟨h1, h2, h3⟩
    have en : nI k ≤ 0 ↔ k ≤ 0 := nI_leI (b := 0) (by omega) (by decide)
    simp only [x_c, x_iload, x_lload, x_aload, x_istore, x_lstore, x_astore, x_iinc, x_iadd, x_isub, x_imul, x_iand, x_ior, x_ixor, x_ladd, x_lsub, x_lmul, x_land, x_lor, x_lxor, x_idiv, x_irem, x_ldiv, x_lrem, x_ineg, x_lneg, x_ishl, x_ishr, x_iushr, x_lshl, x_lshr, x_lushr, x_i2l, x_l2i, x_i2b, x_i2c, x_lcmp, x_if_eq, x_if_ne, x_if_lt, x_if_ge, x_if_gt, x_if_le, x_icmp_eq, x_icmp_ne, x_icmp_lt, x_icmp_ge, x_icmp_gt, x_icmp_le, x_dup, x_pop, x_dup_x1, x_dup2, x_iret, x_zret, x_lret, x_aret, x_vret, x_call, x_callv, x_calli, x_oinit, x_mmax, x_mmin, x_mabs, x_mmaxL, x_mminL, x_mabsL, lg_cmp_ge, lg_cmp_le, lg_cmp_gt, lg_cmp_lt, lg_cmp_eq, xlk, xs1, xs2, lv_args, Value.category, List.filter_cons, List.filter_nil, Nat.reduceAdd, Nat.reduceBEq, Nat.reduceEqDiff, Nat.reduceSub, Nat.sub_zero, beq_self_eq_true, Bool.not_true, Bool.not_false, Bool.and_true, Bool.and_false, Bool.true_and, Bool.false_and, reduceIte, reduceCtorEq, Bool.false_eq_true, Nat.one_ne_zero, Nat.zero_ne_one, Nat.zero_add, Option.toList_some, Option.toList_none, List.nil_append, List.cons_append, List.take_succ_cons, List.take_zero, List.take_nil, List.drop_succ_cons, List.drop_zero, List.length_cons, List.length_nil, List.reverse_cons, List.reverse_nil, List.head?_cons, List.map_cons, List.map_nil, List.sum_cons, List.sum_nil, true_and, and_true, List.getElem?_cons_zero, List.getElem?_cons_succ, Prod.eta, x_get, x_put, x_iald, x_iast, x_bald, x_bast, x_lald, x_last, x_alen, xup_s, xup_a1, xup_1a, xup_uu, nr_i, nr_l, nr_o, nr_a, ft_i, ft_l, ft_o, ft_a, Nat.reduceLT, i_cl0, i_cl1, i_n1, i_m1, List.set_cons_zero, List.set_cons_succ, Nat.reduceLeDiff, Nat.le_refl, Nat.zero_le, Nat.add_zero, b_X0_trim_0, b_X0_trim_34, cn_X0_trim, h1, h2, en]
    cases k with
    | zero => exact ⟨fun _ => hQ _ xoff_rf ⟨f, 0, rA, rfl, by omega⟩, fun q => absurd (Nat.le_refl 0) q⟩
    | succ k =>
      simp only [nI_pred, nI_clamp (show k < 2 ^ 31 by omega)]
      refine ⟨fun q => by omega, fun _ => ⟨vp_in_nI (by omega) (by decide), fun z => hQ _ xoff_rf ⟨f, k + 1, rA, rfl, fun _ => z⟩, fun z => ?_⟩⟩
      refine xInvL.mk k a (by omega) ⟨rfl, trivial⟩ ⟨f, rA.sz (by omega), fun h' o' r' => hQ h' (xoff_tr o' off_sz) ?_⟩
      rw [bv, z, show wn 0 = 0 by decide, Nat.zero_mul, Nat.add_zero]
      exact r'
  · rintro av S Q ⟨a, f, n, rfl, hf, hQ⟩
    exact ⟨Nat.le_of_ble_eq_true rfl, xInv.mk n a ⟨rfl, trivial⟩ ⟨f, hf, hQ⟩⟩
