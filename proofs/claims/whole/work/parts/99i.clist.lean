/-! the list of cells -/
theorem nI_plus (a b : Nat) : nI a + nI b = nI (a + b) := by
  rw [← iZ_nat, ← iZ_nat, ← iZ_nat, iZ_add]
  rfl
theorem nI_p1 (a : Nat) : nI a + 1 = nI (a + 1) := nI_plus a 1
theorem nI_mx {a b : Nat} (ha : a < 2 ^ 31) (hb : b < 2 ^ 31) : (if nI a < nI b then nI b else nI a) = nI (max a b) := by
  have := iZ_mx (x := a) (y := b) (by omega) (by omega)
  rw [iZ_nat, iZ_nat, show (max (a : Int) (b : Int)) = ((max a b : Nat) : Int) by omega, iZ_nat] at this
  exact this
theorem nI_mn {a b : Nat} (ha : a < 2 ^ 31) (hb : b < 2 ^ 31) : (if nI b < nI a then nI b else nI a) = nI (min a b) := by
  have := iZ_mn (x := a) (y := b) (by omega) (by omega)
  rw [iZ_nat, iZ_nat, show (min (a : Int) (b : Int)) = ((min a b : Nat) : Int) by omega, iZ_nat] at this
  exact this
theorem nI_hf : ∀ c, c < 800 → nI c >>> ((1 : Int32) &&& 31) = nI (c / 2) := by decide +kernel
theorem dJ15_checkIndex_7cf53_0 : decode cJ15_checkIndex_7cf53 0 = .ok (.iload_n 0, 1) := by decide +kernel
theorem dJ15_checkIndex_7cf53_1 : decode cJ15_checkIndex_7cf53 1 = .ok (.iload_n 1, 1) := by decide +kernel
theorem dJ15_checkIndex_7cf53_2 : decode cJ15_checkIndex_7cf53 2 = .ok (.aconst_null, 1) := by decide +kernel
theorem dJ15_checkIndex_7cf53_3 : decode cJ15_checkIndex_7cf53 3 = .ok (.invokestatic 105, 3) := by decide +kernel
theorem dJ15_checkIndex_7cf53_6 : decode cJ15_checkIndex_7cf53 6 = .ok (.ireturn, 1) := by decide +kernel
abbrev r_J15_checkIndex_7cf53 : Room := { frames := 1, cells := 0, slots := 0, locals := 22 }
abbrev m_J15_checkIndex_7cf53 : xMd := (cJ15_checkIndex_7cf53, RJ15, 2, (some FieldType.int), false, r_J15_checkIndex_7cf53)
def b_J15_checkIndex_7cf53_0 (Q : xQ) : xK := x_iload 0 <| x_iload 1 <| x_c .null <| x_call C_J3_checkIndex_8e157 3 0 0 <| x_iret Q
theorem s_J15_checkIndex_7cf53_0 (G : xG) (l : Launch) (Q : xQ) : xW G l m_J15_checkIndex_7cf53 xX0 (xPm G Q r_J15_checkIndex_7cf53) 0 (b_J15_checkIndex_7cf53_0 Q) := xo_iload_n (pc := 0) (i := 0) dJ15_checkIndex_7cf53_0 rfl <| xo_iload_n (pc := 1) (i := 1) dJ15_checkIndex_7cf53_1 rfl <| xo_null (pc := 2) dJ15_checkIndex_7cf53_2 <| xo_callS (pc := 3) (np := 3) (cM_J3_checkIndex_8e157 G l) dJ15_checkIndex_7cf53_3 kw444 kw799 kw443 kw22 (by decide +kernel) (by decide) <| xo_iret (pc := 6) rfl dJ15_checkIndex_7cf53_6

def C_J15_checkIndex_7cf53 : xC := fun av S Q => ∃ i n : Nat, av = [.int (nI i), .int (nI n)] ∧ i < n ∧ n ≤ 100000 ∧ Q (some (.int (nI i))) S
theorem cM_J15_checkIndex_7cf53 (G : xG) (l : Launch) : xM G l yJ15_checkIndex_7cf53 cJ15_checkIndex_7cf53 2 (some FieldType.int) r_J15_checkIndex_7cf53 C_J15_checkIndex_7cf53 := by
  refine xM_of (fun Q => b_J15_checkIndex_7cf53_0 Q) RJ15 false (s_J15_checkIndex_7cf53_0 G l) (by decide) rfl (by decide) ?_
  rintro av ⟨h, S2⟩ Q ⟨i, n, rfl, hi, hn, hQ⟩
  refine ⟨Nat.le_of_ble_eq_true rfl, ?_⟩
  simp only [q_c, x_iload, x_lload, x_aload, q_istore, q_lstore, q_astore, q_astore2, x_iinc, q_iadd, q_isub, q_imul, q_iand, q_ior, q_ixor, q_ladd, q_lsub, q_lmul, q_land, q_lor, q_lxor, q_idiv, q_irem, q_ldiv, q_lrem, q_ineg, q_lneg, q_ishl, q_ishr, q_iushr, q_lshl, q_lshr, q_lushr, q_i2l, q_l2i, q_i2b, q_i2c, q_lcmp, q_if_eq, q_if_ne, q_if_lt, q_if_ge, q_if_gt, q_if_le, q_icmp_eq, q_icmp_ne, q_icmp_lt, q_icmp_ge, q_icmp_gt, q_icmp_le, q_dup, q_pop, q_dup_x1, q_dup2, x_iret, x_zret, x_lret, x_aret, x_vret, x_call, x_callv, x_calli, x_oinit, x_mmax, x_mmin, x_mabs, x_mmaxL, x_mminL, x_mabsL, lg_cmp_ge, lg_cmp_le, lg_cmp_gt, lg_cmp_lt, lg_cmp_eq, xlk, q_xs1, q_xs2, lv_args, Value.category, List.filter_cons, List.filter_nil, Nat.reduceAdd, Nat.reduceBEq, Nat.reduceEqDiff, Nat.reduceSub, Nat.sub_zero, beq_self_eq_true, Bool.not_true, Bool.not_false, Bool.and_true, Bool.and_false, Bool.true_and, Bool.false_and, reduceIte, reduceCtorEq, Bool.false_eq_true, Nat.one_ne_zero, Nat.zero_ne_one, Nat.zero_add, Option.toList_some, Option.toList_none, List.nil_append, List.cons_append, List.take_succ_cons, List.take_zero, List.take_nil, List.drop_succ_cons, List.drop_zero, List.length_cons, List.length_nil, List.reverse_cons, List.reverse_nil, List.head?_cons, List.map_cons, List.map_nil, List.sum_cons, List.sum_nil, true_and, and_true, List.getElem?_cons_zero, List.getElem?_cons_succ, Prod.eta, x_iast, x_bald, x_bast, x_last, x_alen, xup_s, xup_a1, xup_1a, xup_uu, nr_i, nr_l, nr_o, nr_a, ft_i, ft_l, ft_o, ft_a, Nat.reduceLT, i_cl0, i_cl1, i_n1, i_m1, List.set_cons_zero, List.set_cons_succ, Nat.reduceLeDiff, Nat.le_refl, Nat.zero_le, Nat.add_zero, x_no, x_ifnull, x_ifnonnull, x_acmp_eq, x_acmp_ne, x_swl, x_tsw, x_castC, true_or, or_true, nr_z, ft_z, nr_z0, nr_z1, ft_z0, ft_z1, nr_on, nr_an, ft_on, ft_an, b_J15_checkIndex_7cf53_0]
  refine ⟨i, n, _, rfl, Or.inl rfl, hi, hn, ?_⟩
  try simp only [q_c, x_iload, x_lload, x_aload, q_istore, q_lstore, q_astore, q_astore2, x_iinc, q_iadd, q_isub, q_imul, q_iand, q_ior, q_ixor, q_ladd, q_lsub, q_lmul, q_land, q_lor, q_lxor, q_idiv, q_irem, q_ldiv, q_lrem, q_ineg, q_lneg, q_ishl, q_ishr, q_iushr, q_lshl, q_lshr, q_lushr, q_i2l, q_l2i, q_i2b, q_i2c, q_lcmp, q_if_eq, q_if_ne, q_if_lt, q_if_ge, q_if_gt, q_if_le, q_icmp_eq, q_icmp_ne, q_icmp_lt, q_icmp_ge, q_icmp_gt, q_icmp_le, q_dup, q_pop, q_dup_x1, q_dup2, x_iret, x_zret, x_lret, x_aret, x_vret, x_call, x_callv, x_calli, x_oinit, x_mmax, x_mmin, x_mabs, x_mmaxL, x_mminL, x_mabsL, lg_cmp_ge, lg_cmp_le, lg_cmp_gt, lg_cmp_lt, lg_cmp_eq, xlk, q_xs1, q_xs2, lv_args, Value.category, List.filter_cons, List.filter_nil, Nat.reduceAdd, Nat.reduceBEq, Nat.reduceEqDiff, Nat.reduceSub, Nat.sub_zero, beq_self_eq_true, Bool.not_true, Bool.not_false, Bool.and_true, Bool.and_false, Bool.true_and, Bool.false_and, reduceIte, reduceCtorEq, Bool.false_eq_true, Nat.one_ne_zero, Nat.zero_ne_one, Nat.zero_add, Option.toList_some, Option.toList_none, List.nil_append, List.cons_append, List.take_succ_cons, List.take_zero, List.take_nil, List.drop_succ_cons, List.drop_zero, List.length_cons, List.length_nil, List.reverse_cons, List.reverse_nil, List.head?_cons, List.map_cons, List.map_nil, List.sum_cons, List.sum_nil, true_and, and_true, List.getElem?_cons_zero, List.getElem?_cons_succ, Prod.eta, x_iast, x_bald, x_bast, x_last, x_alen, xup_s, xup_a1, xup_1a, xup_uu, nr_i, nr_l, nr_o, nr_a, ft_i, ft_l, ft_o, ft_a, Nat.reduceLT, i_cl0, i_cl1, i_n1, i_m1, List.set_cons_zero, List.set_cons_succ, Nat.reduceLeDiff, Nat.le_refl, Nat.zero_le, Nat.add_zero, x_no, x_ifnull, x_ifnonnull, x_acmp_eq, x_acmp_ne, x_swl, x_tsw, x_castC, true_or, or_true, nr_z, ft_z, nr_z0, nr_z1, ft_z0, ft_z1, nr_on, nr_an, ft_on, ft_an]
  exact hQ
theorem dJ8_newLength_cabcc_0 : decode cJ8_newLength_cabcc 0 = .ok (.iload_n 0, 1) := by decide +kernel
theorem dJ8_newLength_cabcc_1 : decode cJ8_newLength_cabcc 1 = .ok (.iload_n 1, 1) := by decide +kernel
theorem dJ8_newLength_cabcc_2 : decode cJ8_newLength_cabcc 2 = .ok (.iload_n 2, 1) := by decide +kernel
theorem dJ8_newLength_cabcc_3 : decode cJ8_newLength_cabcc 3 = .ok (.invokestatic 194, 3) := by decide +kernel
theorem dJ8_newLength_cabcc_6 : decode cJ8_newLength_cabcc 6 = .ok (.iadd, 1) := by decide +kernel
theorem dJ8_newLength_cabcc_7 : decode cJ8_newLength_cabcc 7 = .ok (.istore_n 3, 1) := by decide +kernel
theorem dJ8_newLength_cabcc_8 : decode cJ8_newLength_cabcc 8 = .ok (.iconst 0, 1) := by decide +kernel
theorem dJ8_newLength_cabcc_9 : decode cJ8_newLength_cabcc 9 = .ok (.iload_n 3, 1) := by decide +kernel
theorem dJ8_newLength_cabcc_10 : decode cJ8_newLength_cabcc 10 = .ok (.if_icmp .ge 11, 3) := by decide +kernel
theorem dJ8_newLength_cabcc_13 : decode cJ8_newLength_cabcc 13 = .ok (.iload_n 3, 1) := by decide +kernel
theorem dJ8_newLength_cabcc_14 : decode cJ8_newLength_cabcc 14 = .ok (.ldc 200, 2) := by decide +kernel
theorem dJ8_newLength_cabcc_16 : decode cJ8_newLength_cabcc 16 = .ok (.if_icmp .gt 5, 3) := by decide +kernel
theorem dJ8_newLength_cabcc_19 : decode cJ8_newLength_cabcc 19 = .ok (.iload_n 3, 1) := by decide +kernel
theorem dJ8_newLength_cabcc_20 : decode cJ8_newLength_cabcc 20 = .ok (.ireturn, 1) := by decide +kernel
theorem dJ8_newLength_cabcc_21 : decode cJ8_newLength_cabcc 21 = .ok (.iload_n 0, 1) := by decide +kernel
theorem dJ8_newLength_cabcc_22 : decode cJ8_newLength_cabcc 22 = .ok (.iload_n 1, 1) := by decide +kernel
theorem dJ8_newLength_cabcc_23 : decode cJ8_newLength_cabcc 23 = .ok (.invokestatic 201, 3) := by decide +kernel
theorem dJ8_newLength_cabcc_26 : decode cJ8_newLength_cabcc 26 = .ok (.ireturn, 1) := by decide +kernel
abbrev r_J8_newLength_cabcc : Room := { frames := 1, cells := 0, slots := 0, locals := 21 }
abbrev m_J8_newLength_cabcc : xMd := (cJ8_newLength_cabcc, RJ8, 4, (some FieldType.int), false, r_J8_newLength_cabcc)
def b_J8_newLength_cabcc_21 (Q : xQ) : xK := x_no
def b_J8_newLength_cabcc_0 (Q : xQ) : xK := x_iload 0 <| x_iload 1 <| x_iload 2 <| x_mmax <| x_iadd <| x_istore 3 <| x_c (.int 0) <| x_iload 3 <| x_icmp_ge ((b_J8_newLength_cabcc_21 Q)) <| x_iload 3 <| x_c (.int 2147483639) <| x_icmp_gt ((b_J8_newLength_cabcc_21 Q)) <| x_iload 3 <| x_iret Q
theorem s_J8_newLength_cabcc_21 (G : xG) (l : Launch) (Q : xQ) : xW G l m_J8_newLength_cabcc xX0 (xPm G Q r_J8_newLength_cabcc) 21 (b_J8_newLength_cabcc_21 Q) := xo_no
theorem s_J8_newLength_cabcc_0 (G : xG) (l : Launch) (Q : xQ) : xW G l m_J8_newLength_cabcc xX0 (xPm G Q r_J8_newLength_cabcc) 0 (b_J8_newLength_cabcc_0 Q) := xo_iload_n (pc := 0) (i := 0) dJ8_newLength_cabcc_0 rfl <| xo_iload_n (pc := 1) (i := 1) dJ8_newLength_cabcc_1 rfl <| xo_iload_n (pc := 2) (i := 2) dJ8_newLength_cabcc_2 rfl <| xo_mmax (pc := 3) dJ8_newLength_cabcc_3 kw738 kw537 kw17 kw538 (by decide) <| xo_iadd (pc := 6) dJ8_newLength_cabcc_6 <| xo_istore_n (pc := 7) (i := 3) dJ8_newLength_cabcc_7 rfl (by decide) <| xo_iconst (pc := 8) dJ8_newLength_cabcc_8 (by decide) <| xo_iload_n (pc := 9) (i := 3) dJ8_newLength_cabcc_9 rfl <| xo_icmp_ge (pc := 10) (tgt := 21) dJ8_newLength_cabcc_10 (by decide) ((s_J8_newLength_cabcc_21 G l Q)) <| xo_iload_n (pc := 13) (i := 3) dJ8_newLength_cabcc_13 rfl <| xo_ldc (pc := 14) dJ8_newLength_cabcc_14 kw739 <| xo_icmp_gt (pc := 16) (tgt := 21) dJ8_newLength_cabcc_16 (by decide) ((s_J8_newLength_cabcc_21 G l Q)) <| xo_iload_n (pc := 19) (i := 3) dJ8_newLength_cabcc_19 rfl <| xo_iret (pc := 20) rfl dJ8_newLength_cabcc_20

def C_J8_newLength_cabcc : xC := fun av S Q => ∃ a b c : Nat, av = [.int (nI a), .int (nI b), .int (nI c)] ∧ a ≤ 100000 ∧ 1 ≤ b ∧ b ≤ 100000 ∧ c ≤ 100000 ∧ Q (some (.int (nI (a + max b c)))) S
theorem cM_J8_newLength_cabcc (G : xG) (l : Launch) : xM G l yJ8_newLength_cabcc cJ8_newLength_cabcc 4 (some FieldType.int) r_J8_newLength_cabcc C_J8_newLength_cabcc := by
  refine xM_of (fun Q => b_J8_newLength_cabcc_0 Q) RJ8 false (s_J8_newLength_cabcc_0 G l) (by decide) rfl (by decide) ?_
  rintro av ⟨h, S2⟩ Q ⟨a, b, c, rfl, h1, h2, h3, h4, hQ⟩
  refine ⟨Nat.le_of_ble_eq_true rfl, ?_⟩
  have e1 := nI_mx (a := b) (b := c) (by omega) (by omega)
  have t1 : (nI (a + max b c)).toInt = ((a + max b c : Nat) : Int) := nI_toInt (by omega)
  have c0' : nI (a + max b c) ≤ 0 ↔ False := iff_false_intro (by
    rw [i_le, t1]
    show ¬ ((a + max b c : Nat) : Int) ≤ 0
    omega)
  have c1' : (2147483639 : Int32) < nI (a + max b c) ↔ False := iff_false_intro (by
    rw [i_lt, t1]
    show ¬ (2147483639 : Int) < ((a + max b c : Nat) : Int)
    omega)
  simp only [q_c, x_iload, x_lload, x_aload, q_istore, q_lstore, q_astore, q_astore2, x_iinc, q_iadd, q_isub, q_imul, q_iand, q_ior, q_ixor, q_ladd, q_lsub, q_lmul, q_land, q_lor, q_lxor, q_idiv, q_irem, q_ldiv, q_lrem, q_ineg, q_lneg, q_ishl, q_ishr, q_iushr, q_lshl, q_lshr, q_lushr, q_i2l, q_l2i, q_i2b, q_i2c, q_lcmp, q_if_eq, q_if_ne, q_if_lt, q_if_ge, q_if_gt, q_if_le, q_icmp_eq, q_icmp_ne, q_icmp_lt, q_icmp_ge, q_icmp_gt, q_icmp_le, q_dup, q_pop, q_dup_x1, q_dup2, x_iret, x_zret, x_lret, x_aret, x_vret, x_call, x_callv, x_calli, x_oinit, x_mmax, x_mmin, x_mabs, x_mmaxL, x_mminL, x_mabsL, lg_cmp_ge, lg_cmp_le, lg_cmp_gt, lg_cmp_lt, lg_cmp_eq, xlk, q_xs1, q_xs2, lv_args, Value.category, List.filter_cons, List.filter_nil, Nat.reduceAdd, Nat.reduceBEq, Nat.reduceEqDiff, Nat.reduceSub, Nat.sub_zero, beq_self_eq_true, Bool.not_true, Bool.not_false, Bool.and_true, Bool.and_false, Bool.true_and, Bool.false_and, reduceIte, reduceCtorEq, Bool.false_eq_true, Nat.one_ne_zero, Nat.zero_ne_one, Nat.zero_add, Option.toList_some, Option.toList_none, List.nil_append, List.cons_append, List.take_succ_cons, List.take_zero, List.take_nil, List.drop_succ_cons, List.drop_zero, List.length_cons, List.length_nil, List.reverse_cons, List.reverse_nil, List.head?_cons, List.map_cons, List.map_nil, List.sum_cons, List.sum_nil, true_and, and_true, List.getElem?_cons_zero, List.getElem?_cons_succ, Prod.eta, x_iast, x_bald, x_bast, x_last, x_alen, xup_s, xup_a1, xup_1a, xup_uu, nr_i, nr_l, nr_o, nr_a, ft_i, ft_l, ft_o, ft_a, Nat.reduceLT, i_cl0, i_cl1, i_n1, i_m1, List.set_cons_zero, List.set_cons_succ, Nat.reduceLeDiff, Nat.le_refl, Nat.zero_le, Nat.add_zero, x_no, x_ifnull, x_ifnonnull, x_acmp_eq, x_acmp_ne, x_swl, x_tsw, x_castC, true_or, or_true, nr_z, ft_z, nr_z0, nr_z1, ft_z0, ft_z1, nr_on, nr_an, ft_on, ft_an, b_J8_newLength_cabcc_0, b_J8_newLength_cabcc_21, e1, nI_plus, c0', c1', false_implies, not_false_eq_true, true_implies]
  exact hQ
theorem dJ7_copyOf_6403c_0 : decode cJ7_copyOf_6403c 0 = .ok (.aload_n 2, 1) := by decide +kernel
theorem dJ7_copyOf_6403c_1 : decode cJ7_copyOf_6403c 1 = .ok (.ldc 110, 2) := by decide +kernel
theorem dJ7_copyOf_6403c_3 : decode cJ7_copyOf_6403c 3 = .ok (.if_acmp .ne 10, 3) := by decide +kernel
theorem dJ7_copyOf_6403c_6 : decode cJ7_copyOf_6403c 6 = .ok (.iload_n 1, 1) := by decide +kernel
theorem dJ7_copyOf_6403c_7 : decode cJ7_copyOf_6403c 7 = .ok (.anewarray 2, 3) := by decide +kernel
theorem dJ7_copyOf_6403c_10 : decode cJ7_copyOf_6403c 10 = .ok (.goto 14, 3) := by decide +kernel
theorem dJ7_copyOf_6403c_13 : decode cJ7_copyOf_6403c 13 = .ok (.aload_n 2, 1) := by decide +kernel
theorem dJ7_copyOf_6403c_14 : decode cJ7_copyOf_6403c 14 = .ok (.invokevirtual 90, 3) := by decide +kernel
theorem dJ7_copyOf_6403c_17 : decode cJ7_copyOf_6403c 17 = .ok (.iload_n 1, 1) := by decide +kernel
theorem dJ7_copyOf_6403c_18 : decode cJ7_copyOf_6403c 18 = .ok (.invokestatic 95, 3) := by decide +kernel
theorem dJ7_copyOf_6403c_21 : decode cJ7_copyOf_6403c 21 = .ok (.checkcast 110, 3) := by decide +kernel
theorem dJ7_copyOf_6403c_24 : decode cJ7_copyOf_6403c 24 = .ok (.astore_n 3, 1) := by decide +kernel
theorem dJ7_copyOf_6403c_25 : decode cJ7_copyOf_6403c 25 = .ok (.aload_n 0, 1) := by decide +kernel
theorem dJ7_copyOf_6403c_26 : decode cJ7_copyOf_6403c 26 = .ok (.iconst 0, 1) := by decide +kernel
theorem dJ7_copyOf_6403c_27 : decode cJ7_copyOf_6403c 27 = .ok (.aload_n 3, 1) := by decide +kernel
theorem dJ7_copyOf_6403c_28 : decode cJ7_copyOf_6403c 28 = .ok (.iconst 0, 1) := by decide +kernel
theorem dJ7_copyOf_6403c_29 : decode cJ7_copyOf_6403c 29 = .ok (.aload_n 0, 1) := by decide +kernel
theorem dJ7_copyOf_6403c_30 : decode cJ7_copyOf_6403c 30 = .ok (.arraylength, 1) := by decide +kernel
theorem dJ7_copyOf_6403c_31 : decode cJ7_copyOf_6403c 31 = .ok (.iload_n 1, 1) := by decide +kernel
theorem dJ7_copyOf_6403c_32 : decode cJ7_copyOf_6403c 32 = .ok (.invokestatic 304, 3) := by decide +kernel
theorem dJ7_copyOf_6403c_35 : decode cJ7_copyOf_6403c 35 = .ok (.invokestatic 150, 3) := by decide +kernel
theorem dJ7_copyOf_6403c_38 : decode cJ7_copyOf_6403c 38 = .ok (.aload_n 3, 1) := by decide +kernel
theorem dJ7_copyOf_6403c_39 : decode cJ7_copyOf_6403c 39 = .ok (.areturn, 1) := by decide +kernel
abbrev r_J7_copyOf_6403c : Room := { frames := 1, cells := 1, slots := 768, locals := 26 }
abbrev m_J7_copyOf_6403c : xMd := (cJ7_copyOf_6403c, RJ7, 4, (some (FieldType.array (FieldType.object "java/lang/Object"))), false, r_J7_copyOf_6403c)
def b_J7_copyOf_6403c_24 (Q : xQ) : xK := x_astore 3 <| x_aload 0 <| x_c (.int 0) <| x_aload 3 <| x_c (.int 0) <| x_aload 0 <| x_alen <| x_iload 1 <| x_mmin <| x_copyq <| x_aload 3 <| x_aret Q
def b_J7_copyOf_6403c_0 (Q : xQ) : xK := x_aload 2 <| x_kst xkM <| x_acmp_ne (x_no) <| x_iload 1 <| x_anew <| (b_J7_copyOf_6403c_24 Q)
theorem s_J7_copyOf_6403c_24 (G : xG) (l : Launch) (Q : xQ) : xW G l m_J7_copyOf_6403c xX0 (xPm G Q r_J7_copyOf_6403c) 24 (b_J7_copyOf_6403c_24 Q) := xo_astore_n (pc := 24) (i := 3) dJ7_copyOf_6403c_24 rfl (by decide) <| xo_aload_n (pc := 25) (i := 0) dJ7_copyOf_6403c_25 rfl <| xo_iconst (pc := 26) dJ7_copyOf_6403c_26 (by decide) <| xo_aload_n (pc := 27) (i := 3) dJ7_copyOf_6403c_27 rfl <| xo_iconst (pc := 28) dJ7_copyOf_6403c_28 (by decide) <| xo_aload_n (pc := 29) (i := 0) dJ7_copyOf_6403c_29 rfl <| xo_alen (pc := 30) dJ7_copyOf_6403c_30 <| xo_iload_n (pc := 31) (i := 1) dJ7_copyOf_6403c_31 rfl <| xo_mmin (pc := 32) dJ7_copyOf_6403c_32 kw330 kw331 kw17 kw332 (by decide) <| xo_copyq (pc := 35) dJ7_copyOf_6403c_35 kw333 kw334 kw18 (by decide) <| xo_aload_n (pc := 38) (i := 3) dJ7_copyOf_6403c_38 rfl <| xo_aret (pc := 39) rfl (by first | exact Or.inl ⟨_, rfl⟩ | exact Or.inr ⟨_, rfl⟩) dJ7_copyOf_6403c_39
theorem s_J7_copyOf_6403c_0 (G : xG) (l : Launch) (Q : xQ) : xW G l m_J7_copyOf_6403c xX0 (xPm G Q r_J7_copyOf_6403c) 0 (b_J7_copyOf_6403c_0 Q) := xo_aload_n (pc := 0) (i := 2) dJ7_copyOf_6403c_0 rfl <| xo_kM (pc := 1) dJ7_copyOf_6403c_1 kw767 <| xo_acmp_ne (pc := 3) (tgt := 13) dJ7_copyOf_6403c_3 (by decide) (xo_no) <| xo_iload_n (pc := 6) (i := 1) dJ7_copyOf_6403c_6 rfl <| xo_anew (pc := 7) kw769 dJ7_copyOf_6403c_7 <| xo_goto (pc := 10) (tgt := 24) dJ7_copyOf_6403c_10 (by decide) <| (s_J7_copyOf_6403c_24 G l Q)

def C_J7_copyOf_6403c : xC := fun av S Q => ∃ (a0 m b n0 : Nat) (f : Nat → Option Nat), av = [.ref a0, .int (nI m), .ref b] ∧ S.1 b = some xkM ∧ S.1 a0 = some (qA n0 f) ∧ a0 ≠ S.2.1 ∧ n0 ≤ m ∧ m ≤ 768 ∧ (∀ i, i < n0 → ∀ y, f i = some y → y ≠ S.2.1 ∧ ∃ fs, S.1 y = some (.inr (2, fs))) ∧ 1 ≤ S.2.2.1 ∧ m ≤ S.2.2.2 ∧ ∀ h', xoff h' S.1 S.2.1 (S.2.1 + 1) → h' S.2.1 = some (qA m (va_cpy f (fun _ => none) 0 0 n0)) → Q (some (.ref S.2.1)) (h', S.2.1 + 1, S.2.2.1 - 1, S.2.2.2 - m)
theorem cM_J7_copyOf_6403c (G : xG) (l : Launch) : xM G l yJ7_copyOf_6403c cJ7_copyOf_6403c 4 (some (FieldType.array (FieldType.object "java/lang/Object"))) r_J7_copyOf_6403c C_J7_copyOf_6403c := by
  refine xM_of (fun Q => b_J7_copyOf_6403c_0 Q) RJ7 false (s_J7_copyOf_6403c_0 G l) (by decide) rfl (by decide) ?_
  rintro av ⟨h, sz, cl, sl⟩ Q ⟨a0, m, b, n0, f, rfl, hb, ha, hne, hn, hm, hf, h1, h2, hQ⟩
  dsimp only at *
  refine ⟨Nat.le_of_ble_eq_true rfl, ?_⟩
  have cm : (nI m).toNatClampNeg = m := m_cl (by omega)
  have c0 : (nI n0).toNatClampNeg = n0 := m_cl (by omega)
  have nm : ¬ nI m < 0 := by
    rw [i_lt, nI_toInt (by omega)]
    show ¬ (m : Int) < 0
    omega
  have nn : ¬ nI n0 < 0 := by
    rw [i_lt, nI_toInt (by omega)]
    show ¬ (n0 : Int) < 0
    omega
  have em := nI_mn (a := n0) (b := m) (by omega) (by omega)
  rw [show min n0 m = n0 by omega] at em
  have ha' : xup h sz (qA m (fun _ => none)) a0 = some (qA n0 f) := (xup_n hne).trans ha
  simp only [q_c, x_iload, x_lload, x_aload, q_istore, q_lstore, q_astore, q_astore2, x_iinc, q_iadd, q_isub, q_imul, q_iand, q_ior, q_ixor, q_ladd, q_lsub, q_lmul, q_land, q_lor, q_lxor, q_idiv, q_irem, q_ldiv, q_lrem, q_ineg, q_lneg, q_ishl, q_ishr, q_iushr, q_lshl, q_lshr, q_lushr, q_i2l, q_l2i, q_i2b, q_i2c, q_lcmp, q_if_eq, q_if_ne, q_if_lt, q_if_ge, q_if_gt, q_if_le, q_icmp_eq, q_icmp_ne, q_icmp_lt, q_icmp_ge, q_icmp_gt, q_icmp_le, q_dup, q_pop, q_dup_x1, q_dup2, x_iret, x_zret, x_lret, x_aret, x_vret, x_call, x_callv, x_calli, x_oinit, x_mmax, x_mmin, x_mabs, x_mmaxL, x_mminL, x_mabsL, lg_cmp_ge, lg_cmp_le, lg_cmp_gt, lg_cmp_lt, lg_cmp_eq, xlk, q_xs1, q_xs2, lv_args, Value.category, List.filter_cons, List.filter_nil, Nat.reduceAdd, Nat.reduceBEq, Nat.reduceEqDiff, Nat.reduceSub, Nat.sub_zero, beq_self_eq_true, Bool.not_true, Bool.not_false, Bool.and_true, Bool.and_false, Bool.true_and, Bool.false_and, reduceIte, reduceCtorEq, Bool.false_eq_true, Nat.one_ne_zero, Nat.zero_ne_one, Nat.zero_add, Option.toList_some, Option.toList_none, List.nil_append, List.cons_append, List.take_succ_cons, List.take_zero, List.take_nil, List.drop_succ_cons, List.drop_zero, List.length_cons, List.length_nil, List.reverse_cons, List.reverse_nil, List.head?_cons, List.map_cons, List.map_nil, List.sum_cons, List.sum_nil, true_and, and_true, List.getElem?_cons_zero, List.getElem?_cons_succ, Prod.eta, x_iast, x_bald, x_bast, x_last, x_alen, xup_s, xup_a1, xup_1a, xup_uu, nr_i, nr_l, nr_o, nr_a, ft_i, ft_l, ft_o, ft_a, Nat.reduceLT, i_cl0, i_cl1, i_n1, i_m1, List.set_cons_zero, List.set_cons_succ, Nat.reduceLeDiff, Nat.le_refl, Nat.zero_le, Nat.add_zero, x_no, x_ifnull, x_ifnonnull, x_acmp_eq, x_acmp_ne, x_swl, x_tsw, x_castC, true_or, or_true, nr_z, ft_z, nr_z0, nr_z1, ft_z0, ft_z1, nr_on, nr_an, ft_on, ft_an, b_J7_copyOf_6403c_0, b_J7_copyOf_6403c_24, x_kst]
  intro a hb' hu
  have e := hu b hb
  refine ⟨fun y => absurd e y, fun _ => ?_⟩
  simp only [q_c, x_iload, x_lload, x_aload, q_istore, q_lstore, q_astore, q_astore2, x_iinc, q_iadd, q_isub, q_imul, q_iand, q_ior, q_ixor, q_ladd, q_lsub, q_lmul, q_land, q_lor, q_lxor, q_idiv, q_irem, q_ldiv, q_lrem, q_ineg, q_lneg, q_ishl, q_ishr, q_iushr, q_lshl, q_lshr, q_lushr, q_i2l, q_l2i, q_i2b, q_i2c, q_lcmp, q_if_eq, q_if_ne, q_if_lt, q_if_ge, q_if_gt, q_if_le, q_icmp_eq, q_icmp_ne, q_icmp_lt, q_icmp_ge, q_icmp_gt, q_icmp_le, q_dup, q_pop, q_dup_x1, q_dup2, x_iret, x_zret, x_lret, x_aret, x_vret, x_call, x_callv, x_calli, x_oinit, x_mmax, x_mmin, x_mabs, x_mmaxL, x_mminL, x_mabsL, lg_cmp_ge, lg_cmp_le, lg_cmp_gt, lg_cmp_lt, lg_cmp_eq, xlk, q_xs1, q_xs2, lv_args, Value.category, List.filter_cons, List.filter_nil, Nat.reduceAdd, Nat.reduceBEq, Nat.reduceEqDiff, Nat.reduceSub, Nat.sub_zero, beq_self_eq_true, Bool.not_true, Bool.not_false, Bool.and_true, Bool.and_false, Bool.true_and, Bool.false_and, reduceIte, reduceCtorEq, Bool.false_eq_true, Nat.one_ne_zero, Nat.zero_ne_one, Nat.zero_add, Option.toList_some, Option.toList_none, List.nil_append, List.cons_append, List.take_succ_cons, List.take_zero, List.take_nil, List.drop_succ_cons, List.drop_zero, List.length_cons, List.length_nil, List.reverse_cons, List.reverse_nil, List.head?_cons, List.map_cons, List.map_nil, List.sum_cons, List.sum_nil, true_and, and_true, List.getElem?_cons_zero, List.getElem?_cons_succ, Prod.eta, x_iast, x_bald, x_bast, x_last, x_alen, xup_s, xup_a1, xup_1a, xup_uu, nr_i, nr_l, nr_o, nr_a, ft_i, ft_l, ft_o, ft_a, Nat.reduceLT, i_cl0, i_cl1, i_n1, i_m1, List.set_cons_zero, List.set_cons_succ, Nat.reduceLeDiff, Nat.le_refl, Nat.zero_le, Nat.add_zero, x_no, x_ifnull, x_ifnonnull, x_acmp_eq, x_acmp_ne, x_swl, x_tsw, x_castC, true_or, or_true, nr_z, ft_z, nr_z0, nr_z1, ft_z0, ft_z1, nr_on, nr_an, ft_on, ft_an, x_anew, cm]
  refine ⟨nm, by omega, h1, h2, ?_⟩
  have el : Int32.ofNat n0 = nI n0 := rfl
  simp only [q_c, x_iload, x_lload, x_aload, q_istore, q_lstore, q_astore, q_astore2, x_iinc, q_iadd, q_isub, q_imul, q_iand, q_ior, q_ixor, q_ladd, q_lsub, q_lmul, q_land, q_lor, q_lxor, q_idiv, q_irem, q_ldiv, q_lrem, q_ineg, q_lneg, q_ishl, q_ishr, q_iushr, q_lshl, q_lshr, q_lushr, q_i2l, q_l2i, q_i2b, q_i2c, q_lcmp, q_if_eq, q_if_ne, q_if_lt, q_if_ge, q_if_gt, q_if_le, q_icmp_eq, q_icmp_ne, q_icmp_lt, q_icmp_ge, q_icmp_gt, q_icmp_le, q_dup, q_pop, q_dup_x1, q_dup2, x_iret, x_zret, x_lret, x_aret, x_vret, x_call, x_callv, x_calli, x_oinit, x_mmax, x_mmin, x_mabs, x_mmaxL, x_mminL, x_mabsL, lg_cmp_ge, lg_cmp_le, lg_cmp_gt, lg_cmp_lt, lg_cmp_eq, xlk, q_xs1, q_xs2, lv_args, Value.category, List.filter_cons, List.filter_nil, Nat.reduceAdd, Nat.reduceBEq, Nat.reduceEqDiff, Nat.reduceSub, Nat.sub_zero, beq_self_eq_true, Bool.not_true, Bool.not_false, Bool.and_true, Bool.and_false, Bool.true_and, Bool.false_and, reduceIte, reduceCtorEq, Bool.false_eq_true, Nat.one_ne_zero, Nat.zero_ne_one, Nat.zero_add, Option.toList_some, Option.toList_none, List.nil_append, List.cons_append, List.take_succ_cons, List.take_zero, List.take_nil, List.drop_succ_cons, List.drop_zero, List.length_cons, List.length_nil, List.reverse_cons, List.reverse_nil, List.head?_cons, List.map_cons, List.map_nil, List.sum_cons, List.sum_nil, true_and, and_true, List.getElem?_cons_zero, List.getElem?_cons_succ, Prod.eta, x_iast, x_bald, x_bast, x_last, x_alen, xup_s, xup_a1, xup_1a, xup_uu, nr_i, nr_l, nr_o, nr_a, ft_i, ft_l, ft_o, ft_a, Nat.reduceLT, i_cl0, i_cl1, i_n1, i_m1, List.set_cons_zero, List.set_cons_succ, Nat.reduceLeDiff, Nat.le_refl, Nat.zero_le, Nat.add_zero, x_no, x_ifnull, x_ifnonnull, x_acmp_eq, x_acmp_ne, x_swl, x_tsw, x_castC, true_or, or_true, nr_z, ft_z, nr_z0, nr_z1, ft_z0, ft_z1, nr_on, nr_an, ft_on, ft_an, ha', el, em]
  simp only [q_c, x_iload, x_lload, x_aload, q_istore, q_lstore, q_astore, q_astore2, x_iinc, q_iadd, q_isub, q_imul, q_iand, q_ior, q_ixor, q_ladd, q_lsub, q_lmul, q_land, q_lor, q_lxor, q_idiv, q_irem, q_ldiv, q_lrem, q_ineg, q_lneg, q_ishl, q_ishr, q_iushr, q_lshl, q_lshr, q_lushr, q_i2l, q_l2i, q_i2b, q_i2c, q_lcmp, q_if_eq, q_if_ne, q_if_lt, q_if_ge, q_if_gt, q_if_le, q_icmp_eq, q_icmp_ne, q_icmp_lt, q_icmp_ge, q_icmp_gt, q_icmp_le, q_dup, q_pop, q_dup_x1, q_dup2, x_iret, x_zret, x_lret, x_aret, x_vret, x_call, x_callv, x_calli, x_oinit, x_mmax, x_mmin, x_mabs, x_mmaxL, x_mminL, x_mabsL, lg_cmp_ge, lg_cmp_le, lg_cmp_gt, lg_cmp_lt, lg_cmp_eq, xlk, q_xs1, q_xs2, lv_args, Value.category, List.filter_cons, List.filter_nil, Nat.reduceAdd, Nat.reduceBEq, Nat.reduceEqDiff, Nat.reduceSub, Nat.sub_zero, beq_self_eq_true, Bool.not_true, Bool.not_false, Bool.and_true, Bool.and_false, Bool.true_and, Bool.false_and, reduceIte, reduceCtorEq, Bool.false_eq_true, Nat.one_ne_zero, Nat.zero_ne_one, Nat.zero_add, Option.toList_some, Option.toList_none, List.nil_append, List.cons_append, List.take_succ_cons, List.take_zero, List.take_nil, List.drop_succ_cons, List.drop_zero, List.length_cons, List.length_nil, List.reverse_cons, List.reverse_nil, List.head?_cons, List.map_cons, List.map_nil, List.sum_cons, List.sum_nil, true_and, and_true, List.getElem?_cons_zero, List.getElem?_cons_succ, Prod.eta, x_iast, x_bald, x_bast, x_last, x_alen, xup_s, xup_a1, xup_1a, xup_uu, nr_i, nr_l, nr_o, nr_a, ft_i, ft_l, ft_o, ft_a, Nat.reduceLT, i_cl0, i_cl1, i_n1, i_m1, List.set_cons_zero, List.set_cons_succ, Nat.reduceLeDiff, Nat.le_refl, Nat.zero_le, Nat.add_zero, x_no, x_ifnull, x_ifnonnull, x_acmp_eq, x_acmp_ne, x_swl, x_tsw, x_castC, true_or, or_true, nr_z, ft_z, nr_z0, nr_z1, ft_z0, ft_z1, nr_on, nr_an, ft_on, ft_an, x_copyq, ha', xup_s, c0]
  refine ⟨by decide, by decide, nn, hn, fun i hi y hy => ?_, ?_⟩
  · obtain ⟨k1, fs, k2⟩ := hf i hi y hy
    exact ⟨fs, (xup_n k1).trans k2⟩
  · exact hQ _ (fun q d => xup_n (by omega)) xup_s
theorem dJ7_copyOf_1904c_0 : decode cJ7_copyOf_1904c 0 = .ok (.aload_n 0, 1) := by decide +kernel
theorem dJ7_copyOf_1904c_1 : decode cJ7_copyOf_1904c 1 = .ok (.iload_n 1, 1) := by decide +kernel
theorem dJ7_copyOf_1904c_2 : decode cJ7_copyOf_1904c 2 = .ok (.aload_n 0, 1) := by decide +kernel
theorem dJ7_copyOf_1904c_3 : decode cJ7_copyOf_1904c 3 = .ok (.invokevirtual 86, 3) := by decide +kernel
theorem dJ7_copyOf_1904c_6 : decode cJ7_copyOf_1904c 6 = .ok (.invokestatic 300, 3) := by decide +kernel
theorem dJ7_copyOf_1904c_9 : decode cJ7_copyOf_1904c 9 = .ok (.areturn, 1) := by decide +kernel
abbrev r_J7_copyOf_1904c : Room := { frames := 2, cells := 1, slots := 768, locals := 49 }
abbrev m_J7_copyOf_1904c : xMd := (cJ7_copyOf_1904c, RJ7, 2, (some (FieldType.array (FieldType.object "java/lang/Object"))), false, r_J7_copyOf_1904c)
def b_J7_copyOf_1904c_0 (Q : xQ) : xK := x_aload 0 <| x_iload 1 <| x_aload 0 <| x_getC <| x_call C_J7_copyOf_6403c 3 1 768 <| x_aret Q
theorem s_J7_copyOf_1904c_0 (G : xG) (l : Launch) (Q : xQ) : xW G l m_J7_copyOf_1904c xX0 (xPm G Q r_J7_copyOf_1904c) 0 (b_J7_copyOf_1904c_0 Q) := xo_aload_n (pc := 0) (i := 0) dJ7_copyOf_1904c_0 rfl <| xo_iload_n (pc := 1) (i := 1) dJ7_copyOf_1904c_1 rfl <| xo_aload_n (pc := 2) (i := 0) dJ7_copyOf_1904c_2 rfl <| xo_getC (pc := 3) dJ7_copyOf_1904c_3 kw746 kw747 kw1792 (by decide) <| xo_callS (pc := 6) (np := 3) (cM_J7_copyOf_6403c G l) dJ7_copyOf_1904c_6 kw766 kw764 kw765 kw16 (by decide +kernel) (by decide) <| xo_aret (pc := 9) rfl (by first | exact Or.inl ⟨_, rfl⟩ | exact Or.inr ⟨_, rfl⟩) dJ7_copyOf_1904c_9

def C_J7_copyOf_1904c : xC := fun av S Q => ∃ (a0 m n0 : Nat) (f : Nat → Option Nat), av = [.ref a0, .int (nI m)] ∧ S.1 a0 = some (qA n0 f) ∧ a0 ≠ S.2.1 ∧ n0 ≤ m ∧ m ≤ 768 ∧ (∀ i, i < n0 → ∀ y, f i = some y → y ≠ S.2.1 ∧ ∃ fs, S.1 y = some (.inr (2, fs))) ∧ 1 ≤ S.2.2.1 ∧ 768 ≤ S.2.2.2 ∧ ∀ h' T, xoff h' S.1 S.2.1 (S.2.1 + 1) → h' S.2.1 = some (qA m (va_cpy f (fun _ => none) 0 0 n0)) → Q (some (.ref S.2.1)) (h', S.2.1 + 1, T)
theorem cM_J7_copyOf_1904c (G : xG) (l : Launch) : xM G l yJ7_copyOf_1904c cJ7_copyOf_1904c 2 (some (FieldType.array (FieldType.object "java/lang/Object"))) r_J7_copyOf_1904c C_J7_copyOf_1904c := by
  refine xM_of (fun Q => b_J7_copyOf_1904c_0 Q) RJ7 false (s_J7_copyOf_1904c_0 G l) (by decide) rfl (by decide) ?_
  rintro av ⟨h, sz, cl, sl⟩ Q ⟨a0, m, n0, f, rfl, ha, hne, hn, hm, hf, h1, h2, hQ⟩
  dsimp only at *
  refine ⟨Nat.le_of_ble_eq_true rfl, ?_⟩
  simp only [q_c, x_iload, x_lload, x_aload, q_istore, q_lstore, q_astore, q_astore2, x_iinc, q_iadd, q_isub, q_imul, q_iand, q_ior, q_ixor, q_ladd, q_lsub, q_lmul, q_land, q_lor, q_lxor, q_idiv, q_irem, q_ldiv, q_lrem, q_ineg, q_lneg, q_ishl, q_ishr, q_iushr, q_lshl, q_lshr, q_lushr, q_i2l, q_l2i, q_i2b, q_i2c, q_lcmp, q_if_eq, q_if_ne, q_if_lt, q_if_ge, q_if_gt, q_if_le, q_icmp_eq, q_icmp_ne, q_icmp_lt, q_icmp_ge, q_icmp_gt, q_icmp_le, q_dup, q_pop, q_dup_x1, q_dup2, x_iret, x_zret, x_lret, x_aret, x_vret, x_call, x_callv, x_calli, x_oinit, x_mmax, x_mmin, x_mabs, x_mmaxL, x_mminL, x_mabsL, lg_cmp_ge, lg_cmp_le, lg_cmp_gt, lg_cmp_lt, lg_cmp_eq, xlk, q_xs1, q_xs2, lv_args, Value.category, List.filter_cons, List.filter_nil, Nat.reduceAdd, Nat.reduceBEq, Nat.reduceEqDiff, Nat.reduceSub, Nat.sub_zero, beq_self_eq_true, Bool.not_true, Bool.not_false, Bool.and_true, Bool.and_false, Bool.true_and, Bool.false_and, reduceIte, reduceCtorEq, Bool.false_eq_true, Nat.one_ne_zero, Nat.zero_ne_one, Nat.zero_add, Option.toList_some, Option.toList_none, List.nil_append, List.cons_append, List.take_succ_cons, List.take_zero, List.take_nil, List.drop_succ_cons, List.drop_zero, List.length_cons, List.length_nil, List.reverse_cons, List.reverse_nil, List.head?_cons, List.map_cons, List.map_nil, List.sum_cons, List.sum_nil, true_and, and_true, List.getElem?_cons_zero, List.getElem?_cons_succ, Prod.eta, x_iast, x_bald, x_bast, x_last, x_alen, xup_s, xup_a1, xup_1a, xup_uu, nr_i, nr_l, nr_o, nr_a, ft_i, ft_l, ft_o, ft_a, Nat.reduceLT, i_cl0, i_cl1, i_n1, i_m1, List.set_cons_zero, List.set_cons_succ, Nat.reduceLeDiff, Nat.le_refl, Nat.zero_le, Nat.add_zero, x_no, x_ifnull, x_ifnonnull, x_acmp_eq, x_acmp_ne, x_swl, x_tsw, x_castC, true_or, or_true, nr_z, ft_z, nr_z0, nr_z1, ft_z0, ft_z1, nr_on, nr_an, ft_on, ft_an, b_J7_copyOf_1904c_0, x_getC, ha]
  intro b hb hu
  refine ⟨h1, h2, a0, m, b, n0, f, rfl, hb, ha, hne, hn, hm, hf, Nat.le_refl _, hm, fun h' o g => ?_⟩
  try simp only [q_c, x_iload, x_lload, x_aload, q_istore, q_lstore, q_astore, q_astore2, x_iinc, q_iadd, q_isub, q_imul, q_iand, q_ior, q_ixor, q_ladd, q_lsub, q_lmul, q_land, q_lor, q_lxor, q_idiv, q_irem, q_ldiv, q_lrem, q_ineg, q_lneg, q_ishl, q_ishr, q_iushr, q_lshl, q_lshr, q_lushr, q_i2l, q_l2i, q_i2b, q_i2c, q_lcmp, q_if_eq, q_if_ne, q_if_lt, q_if_ge, q_if_gt, q_if_le, q_icmp_eq, q_icmp_ne, q_icmp_lt, q_icmp_ge, q_icmp_gt, q_icmp_le, q_dup, q_pop, q_dup_x1, q_dup2, x_iret, x_zret, x_lret, x_aret, x_vret, x_call, x_callv, x_calli, x_oinit, x_mmax, x_mmin, x_mabs, x_mmaxL, x_mminL, x_mabsL, lg_cmp_ge, lg_cmp_le, lg_cmp_gt, lg_cmp_lt, lg_cmp_eq, xlk, q_xs1, q_xs2, lv_args, Value.category, List.filter_cons, List.filter_nil, Nat.reduceAdd, Nat.reduceBEq, Nat.reduceEqDiff, Nat.reduceSub, Nat.sub_zero, beq_self_eq_true, Bool.not_true, Bool.not_false, Bool.and_true, Bool.and_false, Bool.true_and, Bool.false_and, reduceIte, reduceCtorEq, Bool.false_eq_true, Nat.one_ne_zero, Nat.zero_ne_one, Nat.zero_add, Option.toList_some, Option.toList_none, List.nil_append, List.cons_append, List.take_succ_cons, List.take_zero, List.take_nil, List.drop_succ_cons, List.drop_zero, List.length_cons, List.length_nil, List.reverse_cons, List.reverse_nil, List.head?_cons, List.map_cons, List.map_nil, List.sum_cons, List.sum_nil, true_and, and_true, List.getElem?_cons_zero, List.getElem?_cons_succ, Prod.eta, x_iast, x_bald, x_bast, x_last, x_alen, xup_s, xup_a1, xup_1a, xup_uu, nr_i, nr_l, nr_o, nr_a, ft_i, ft_l, ft_o, ft_a, Nat.reduceLT, i_cl0, i_cl1, i_n1, i_m1, List.set_cons_zero, List.set_cons_succ, Nat.reduceLeDiff, Nat.le_refl, Nat.zero_le, Nat.add_zero, x_no, x_ifnull, x_ifnonnull, x_acmp_eq, x_acmp_ne, x_swl, x_tsw, x_castC, true_or, or_true, nr_z, ft_z, nr_z0, nr_z1, ft_z0, ft_z1, nr_on, nr_an, ft_on, ft_an]
  exact hQ h' _ o g
theorem fit_y {b : Nat} (h : b < 256) : fits .byte (.int (yB b)) = true := by
  have : ∀ k : Fin 256, fits .byte (.int (yB k.val)) = true := by decide +kernel
  exact this ⟨b, h⟩
theorem dJ7_copyOf_9075b_0 : decode cJ7_copyOf_9075b 0 = .ok (.iload_n 1, 1) := by decide +kernel
theorem dJ7_copyOf_9075b_1 : decode cJ7_copyOf_9075b 1 = .ok (.aload_n 0, 1) := by decide +kernel
theorem dJ7_copyOf_9075b_2 : decode cJ7_copyOf_9075b 2 = .ok (.arraylength, 1) := by decide +kernel
theorem dJ7_copyOf_9075b_3 : decode cJ7_copyOf_9075b 3 = .ok (.if_icmp .ne 11, 3) := by decide +kernel
theorem dJ7_copyOf_9075b_6 : decode cJ7_copyOf_9075b 6 = .ok (.aload_n 0, 1) := by decide +kernel
theorem dJ7_copyOf_9075b_7 : decode cJ7_copyOf_9075b 7 = .ok (.invokevirtual 310, 3) := by decide +kernel
theorem dJ7_copyOf_9075b_10 : decode cJ7_copyOf_9075b 10 = .ok (.checkcast 311, 3) := by decide +kernel
theorem dJ7_copyOf_9075b_13 : decode cJ7_copyOf_9075b 13 = .ok (.areturn, 1) := by decide +kernel
theorem dJ7_copyOf_9075b_14 : decode cJ7_copyOf_9075b 14 = .ok (.iload_n 1, 1) := by decide +kernel
theorem dJ7_copyOf_9075b_15 : decode cJ7_copyOf_9075b 15 = .ok (.newarray .byte, 2) := by decide +kernel
theorem dJ7_copyOf_9075b_17 : decode cJ7_copyOf_9075b 17 = .ok (.astore_n 2, 1) := by decide +kernel
theorem dJ7_copyOf_9075b_18 : decode cJ7_copyOf_9075b 18 = .ok (.aload_n 0, 1) := by decide +kernel
theorem dJ7_copyOf_9075b_19 : decode cJ7_copyOf_9075b 19 = .ok (.iconst 0, 1) := by decide +kernel
theorem dJ7_copyOf_9075b_20 : decode cJ7_copyOf_9075b 20 = .ok (.aload_n 2, 1) := by decide +kernel
theorem dJ7_copyOf_9075b_21 : decode cJ7_copyOf_9075b 21 = .ok (.iconst 0, 1) := by decide +kernel
theorem dJ7_copyOf_9075b_22 : decode cJ7_copyOf_9075b 22 = .ok (.aload_n 0, 1) := by decide +kernel
theorem dJ7_copyOf_9075b_23 : decode cJ7_copyOf_9075b 23 = .ok (.arraylength, 1) := by decide +kernel
theorem dJ7_copyOf_9075b_24 : decode cJ7_copyOf_9075b 24 = .ok (.iload_n 1, 1) := by decide +kernel
theorem dJ7_copyOf_9075b_25 : decode cJ7_copyOf_9075b 25 = .ok (.invokestatic 304, 3) := by decide +kernel
theorem dJ7_copyOf_9075b_28 : decode cJ7_copyOf_9075b 28 = .ok (.invokestatic 150, 3) := by decide +kernel
theorem dJ7_copyOf_9075b_31 : decode cJ7_copyOf_9075b 31 = .ok (.aload_n 2, 1) := by decide +kernel
theorem dJ7_copyOf_9075b_32 : decode cJ7_copyOf_9075b 32 = .ok (.areturn, 1) := by decide +kernel
abbrev r_J7_copyOf_9075b : Room := { frames := 1, cells := 1, slots := 400, locals := 26 }
abbrev m_J7_copyOf_9075b : xMd := (cJ7_copyOf_9075b, RJ7, 3, (some (FieldType.array FieldType.byte)), false, r_J7_copyOf_9075b)
def b_J7_copyOf_9075b_0 (Q : xQ) : xK := x_iload 1 <| x_aload 0 <| x_alen <| x_icmp_ne (x_iload 1 <| x_newb <| x_astore 2 <| x_aload 0 <| x_c (.int 0) <| x_aload 2 <| x_c (.int 0) <| x_aload 0 <| x_alen <| x_iload 1 <| x_mmin <| x_copyb <| x_aload 2 <| x_aret Q) <| x_aload 0 <| x_clone <| x_castB <| x_aret Q
theorem s_J7_copyOf_9075b_0 (G : xG) (l : Launch) (Q : xQ) : xW G l m_J7_copyOf_9075b xX0 (xPm G Q r_J7_copyOf_9075b) 0 (b_J7_copyOf_9075b_0 Q) := xo_iload_n (pc := 0) (i := 1) dJ7_copyOf_9075b_0 rfl <| xo_aload_n (pc := 1) (i := 0) dJ7_copyOf_9075b_1 rfl <| xo_alen (pc := 2) dJ7_copyOf_9075b_2 <| xo_icmp_ne (pc := 3) (tgt := 14) dJ7_copyOf_9075b_3 (by decide) (xo_iload_n (pc := 14) (i := 1) dJ7_copyOf_9075b_14 rfl <| xo_newb (pc := 15) kw86 dJ7_copyOf_9075b_15 <| xo_astore_n (pc := 17) (i := 2) dJ7_copyOf_9075b_17 rfl (by decide) <| xo_aload_n (pc := 18) (i := 0) dJ7_copyOf_9075b_18 rfl <| xo_iconst (pc := 19) dJ7_copyOf_9075b_19 (by decide) <| xo_aload_n (pc := 20) (i := 2) dJ7_copyOf_9075b_20 rfl <| xo_iconst (pc := 21) dJ7_copyOf_9075b_21 (by decide) <| xo_aload_n (pc := 22) (i := 0) dJ7_copyOf_9075b_22 rfl <| xo_alen (pc := 23) dJ7_copyOf_9075b_23 <| xo_iload_n (pc := 24) (i := 1) dJ7_copyOf_9075b_24 rfl <| xo_mmin (pc := 25) dJ7_copyOf_9075b_25 kw330 kw331 kw17 kw332 (by decide) <| xo_copyb (pc := 28) dJ7_copyOf_9075b_28 kw333 kw334 kw18 (by decide) <| xo_aload_n (pc := 31) (i := 2) dJ7_copyOf_9075b_31 rfl <| xo_aret (pc := 32) rfl (by first | exact Or.inl ⟨_, rfl⟩ | exact Or.inr ⟨_, rfl⟩) dJ7_copyOf_9075b_32) <| xo_aload_n (pc := 6) (i := 0) dJ7_copyOf_9075b_6 rfl <| xo_clone (pc := 7) dJ7_copyOf_9075b_7 kw323 kw326 kw327 (by decide) <| xo_castB (pc := 10) dJ7_copyOf_9075b_10 kw329 <| xo_aret (pc := 13) rfl (by first | exact Or.inl ⟨_, rfl⟩ | exact Or.inr ⟨_, rfl⟩) dJ7_copyOf_9075b_13

def C_J7_copyOf_9075b : xC := fun av S Q => ∃ (a0 m : Nat) (t : Nat → Nat), av = [.ref a0, .int (nI m)] ∧ S.1 a0 = some (.inl (1, 400, .inl (fun i => yB (t i)))) ∧ (∀ i, t i < 256) ∧ a0 ≠ S.2.1 ∧ m ≤ 400 ∧ 1 ≤ S.2.2.1 ∧ 400 ≤ S.2.2.2 ∧ ∀ h' t' T, xoff h' S.1 S.2.1 (S.2.1 + 1) → rdT h' S.2.1 m t' → (∀ i, i < m → t' i = t i) → Q (some (.ref S.2.1)) (h', S.2.1 + 1, T)
theorem cM_J7_copyOf_9075b (G : xG) (l : Launch) : xM G l yJ7_copyOf_9075b cJ7_copyOf_9075b 3 (some (FieldType.array FieldType.byte)) r_J7_copyOf_9075b C_J7_copyOf_9075b := by
  refine xM_of (fun Q => b_J7_copyOf_9075b_0 Q) RJ7 false (s_J7_copyOf_9075b_0 G l) (by decide) rfl (by decide) ?_
  rintro av ⟨h, sz, cl, sl⟩ Q ⟨a0, m, t, rfl, ha, ht, hne, hm, h1, h2, hQ⟩
  dsimp only at *
  refine ⟨Nat.le_of_ble_eq_true rfl, ?_⟩
  have cm : (nI m).toNatClampNeg = m := m_cl (by omega)
  have nm : ¬ nI m < 0 := by
    rw [i_lt, nI_toInt (by omega)]
    show ¬ (m : Int) < 0
    omega
  have em := nI_mn (a := 400) (b := m) (by omega) (by omega)
  rw [show min 400 m = m by omega] at em
  have el : Int32.ofNat 400 = nI 400 := rfl
  have ha' : ∀ c, xup h sz c a0 = some (.inl (1, 400, .inl (fun i => yB (t i)))) := fun c => (xup_n hne).trans ha
  have q4 : nI m = nI 400 ↔ m = 400 := nI_eq (by omega) (by decide)
  simp only [q_c, x_iload, x_lload, x_aload, q_istore, q_lstore, q_astore, q_astore2, x_iinc, q_iadd, q_isub, q_imul, q_iand, q_ior, q_ixor, q_ladd, q_lsub, q_lmul, q_land, q_lor, q_lxor, q_idiv, q_irem, q_ldiv, q_lrem, q_ineg, q_lneg, q_ishl, q_ishr, q_iushr, q_lshl, q_lshr, q_lushr, q_i2l, q_l2i, q_i2b, q_i2c, q_lcmp, q_if_eq, q_if_ne, q_if_lt, q_if_ge, q_if_gt, q_if_le, q_icmp_eq, q_icmp_ne, q_icmp_lt, q_icmp_ge, q_icmp_gt, q_icmp_le, q_dup, q_pop, q_dup_x1, q_dup2, x_iret, x_zret, x_lret, x_aret, x_vret, x_call, x_callv, x_calli, x_oinit, x_mmax, x_mmin, x_mabs, x_mmaxL, x_mminL, x_mabsL, lg_cmp_ge, lg_cmp_le, lg_cmp_gt, lg_cmp_lt, lg_cmp_eq, xlk, q_xs1, q_xs2, lv_args, Value.category, List.filter_cons, List.filter_nil, Nat.reduceAdd, Nat.reduceBEq, Nat.reduceEqDiff, Nat.reduceSub, Nat.sub_zero, beq_self_eq_true, Bool.not_true, Bool.not_false, Bool.and_true, Bool.and_false, Bool.true_and, Bool.false_and, reduceIte, reduceCtorEq, Bool.false_eq_true, Nat.one_ne_zero, Nat.zero_ne_one, Nat.zero_add, Option.toList_some, Option.toList_none, List.nil_append, List.cons_append, List.take_succ_cons, List.take_zero, List.take_nil, List.drop_succ_cons, List.drop_zero, List.length_cons, List.length_nil, List.reverse_cons, List.reverse_nil, List.head?_cons, List.map_cons, List.map_nil, List.sum_cons, List.sum_nil, true_and, and_true, List.getElem?_cons_zero, List.getElem?_cons_succ, Prod.eta, x_iast, x_bald, x_bast, x_last, x_alen, xup_s, xup_a1, xup_1a, xup_uu, nr_i, nr_l, nr_o, nr_a, ft_i, ft_l, ft_o, ft_a, Nat.reduceLT, i_cl0, i_cl1, i_n1, i_m1, List.set_cons_zero, List.set_cons_succ, Nat.reduceLeDiff, Nat.le_refl, Nat.zero_le, Nat.add_zero, x_no, x_ifnull, x_ifnonnull, x_acmp_eq, x_acmp_ne, x_swl, x_tsw, x_castC, true_or, or_true, nr_z, ft_z, nr_z0, nr_z1, ft_z0, ft_z1, nr_on, nr_an, ft_on, ft_an, b_J7_copyOf_9075b_0, ha, el, q4, x_newb, x_clone, cm]
  refine ⟨fun c => ?_, fun c => ?_⟩
  · refine ⟨nm, by omega, h1, by omega, ?_⟩
    simp only [q_c, x_iload, x_lload, x_aload, q_istore, q_lstore, q_astore, q_astore2, x_iinc, q_iadd, q_isub, q_imul, q_iand, q_ior, q_ixor, q_ladd, q_lsub, q_lmul, q_land, q_lor, q_lxor, q_idiv, q_irem, q_ldiv, q_lrem, q_ineg, q_lneg, q_ishl, q_ishr, q_iushr, q_lshl, q_lshr, q_lushr, q_i2l, q_l2i, q_i2b, q_i2c, q_lcmp, q_if_eq, q_if_ne, q_if_lt, q_if_ge, q_if_gt, q_if_le, q_icmp_eq, q_icmp_ne, q_icmp_lt, q_icmp_ge, q_icmp_gt, q_icmp_le, q_dup, q_pop, q_dup_x1, q_dup2, x_iret, x_zret, x_lret, x_aret, x_vret, x_call, x_callv, x_calli, x_oinit, x_mmax, x_mmin, x_mabs, x_mmaxL, x_mminL, x_mabsL, lg_cmp_ge, lg_cmp_le, lg_cmp_gt, lg_cmp_lt, lg_cmp_eq, xlk, q_xs1, q_xs2, lv_args, Value.category, List.filter_cons, List.filter_nil, Nat.reduceAdd, Nat.reduceBEq, Nat.reduceEqDiff, Nat.reduceSub, Nat.sub_zero, beq_self_eq_true, Bool.not_true, Bool.not_false, Bool.and_true, Bool.and_false, Bool.true_and, Bool.false_and, reduceIte, reduceCtorEq, Bool.false_eq_true, Nat.one_ne_zero, Nat.zero_ne_one, Nat.zero_add, Option.toList_some, Option.toList_none, List.nil_append, List.cons_append, List.take_succ_cons, List.take_zero, List.take_nil, List.drop_succ_cons, List.drop_zero, List.length_cons, List.length_nil, List.reverse_cons, List.reverse_nil, List.head?_cons, List.map_cons, List.map_nil, List.sum_cons, List.sum_nil, true_and, and_true, List.getElem?_cons_zero, List.getElem?_cons_succ, Prod.eta, x_iast, x_bald, x_bast, x_last, x_alen, xup_s, xup_a1, xup_1a, xup_uu, nr_i, nr_l, nr_o, nr_a, ft_i, ft_l, ft_o, ft_a, Nat.reduceLT, i_cl0, i_cl1, i_n1, i_m1, List.set_cons_zero, List.set_cons_succ, Nat.reduceLeDiff, Nat.le_refl, Nat.zero_le, Nat.add_zero, x_no, x_ifnull, x_ifnonnull, x_acmp_eq, x_acmp_ne, x_swl, x_tsw, x_castC, true_or, or_true, nr_z, ft_z, nr_z0, nr_z1, ft_z0, ft_z1, nr_on, nr_an, ft_on, ft_an, ha', el, em, x_copyb, xup_s, cm]
    refine ⟨by decide, by decide, nm, hm, fun i => fit_y (ht i), ?_⟩
    have e : va_cpy (fun i => yB (t i)) (fun _ => 0) 0 0 m = fun i => yB (if i < m then t i else 0) := by
      funext i
      unfold va_cpy
      by_cases d : i < m
      · rw [if_pos ⟨Nat.zero_le _, by omega⟩, if_pos d, show 0 + (i - 0) = i by omega]
      · rw [if_neg (by omega), if_neg d]
        rfl
    rw [e]
    refine hQ _ (fun i => if i < m then t i else 0) _ (fun q d => xup_n (by omega)) ⟨xup_s, hm, fun i => ?_⟩ (fun i hi => if_pos hi)
    show (if i < m then t i else 0) < 256
    split
    · exact ht i
    · decide
  · refine ⟨fun i => fit_y (ht i), h1, by omega, ?_⟩
    simp only [q_c, x_iload, x_lload, x_aload, q_istore, q_lstore, q_astore, q_astore2, x_iinc, q_iadd, q_isub, q_imul, q_iand, q_ior, q_ixor, q_ladd, q_lsub, q_lmul, q_land, q_lor, q_lxor, q_idiv, q_irem, q_ldiv, q_lrem, q_ineg, q_lneg, q_ishl, q_ishr, q_iushr, q_lshl, q_lshr, q_lushr, q_i2l, q_l2i, q_i2b, q_i2c, q_lcmp, q_if_eq, q_if_ne, q_if_lt, q_if_ge, q_if_gt, q_if_le, q_icmp_eq, q_icmp_ne, q_icmp_lt, q_icmp_ge, q_icmp_gt, q_icmp_le, q_dup, q_pop, q_dup_x1, q_dup2, x_iret, x_zret, x_lret, x_aret, x_vret, x_call, x_callv, x_calli, x_oinit, x_mmax, x_mmin, x_mabs, x_mmaxL, x_mminL, x_mabsL, lg_cmp_ge, lg_cmp_le, lg_cmp_gt, lg_cmp_lt, lg_cmp_eq, xlk, q_xs1, q_xs2, lv_args, Value.category, List.filter_cons, List.filter_nil, Nat.reduceAdd, Nat.reduceBEq, Nat.reduceEqDiff, Nat.reduceSub, Nat.sub_zero, beq_self_eq_true, Bool.not_true, Bool.not_false, Bool.and_true, Bool.and_false, Bool.true_and, Bool.false_and, reduceIte, reduceCtorEq, Bool.false_eq_true, Nat.one_ne_zero, Nat.zero_ne_one, Nat.zero_add, Option.toList_some, Option.toList_none, List.nil_append, List.cons_append, List.take_succ_cons, List.take_zero, List.take_nil, List.drop_succ_cons, List.drop_zero, List.length_cons, List.length_nil, List.reverse_cons, List.reverse_nil, List.head?_cons, List.map_cons, List.map_nil, List.sum_cons, List.sum_nil, true_and, and_true, List.getElem?_cons_zero, List.getElem?_cons_succ, Prod.eta, x_iast, x_bald, x_bast, x_last, x_alen, xup_s, xup_a1, xup_1a, xup_uu, nr_i, nr_l, nr_o, nr_a, ft_i, ft_l, ft_o, ft_a, Nat.reduceLT, i_cl0, i_cl1, i_n1, i_m1, List.set_cons_zero, List.set_cons_succ, Nat.reduceLeDiff, Nat.le_refl, Nat.zero_le, Nat.add_zero, x_no, x_ifnull, x_ifnonnull, x_acmp_eq, x_acmp_ne, x_swl, x_tsw, x_castC, true_or, or_true, nr_z, ft_z, nr_z0, nr_z1, ft_z0, ft_z1, nr_on, nr_an, ft_on, ft_an, x_castB, xup_s]
    subst c
    exact hQ _ t _ (fun q d => xup_n (by omega)) ⟨xup_s, by omega, ht⟩ (fun i hi => rfl)
