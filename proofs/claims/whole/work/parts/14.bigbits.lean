theorem dX0_from_0 : decode cX0_from 0 = .ok (.iload_n 1, 1) := by decide +kernel
theorem dX0_from_1 : decode cX0_from 1 = .ok (.iconst 5, 1) := by decide +kernel
theorem dX0_from_2 : decode cX0_from 2 = .ok (.ishr, 1) := by decide +kernel
theorem dX0_from_3 : decode cX0_from 3 = .ok (.istore_n 2, 1) := by decide +kernel
theorem dX0_from_4 : decode cX0_from 4 = .ok (.iload_n 1, 1) := by decide +kernel
theorem dX0_from_5 : decode cX0_from 5 = .ok (.bipush 31, 2) := by decide +kernel
theorem dX0_from_7 : decode cX0_from 7 = .ok (.iand, 1) := by decide +kernel
theorem dX0_from_8 : decode cX0_from 8 = .ok (.istore_n 3, 1) := by decide +kernel
theorem dX0_from_9 : decode cX0_from 9 = .ok (.aload_n 0, 1) := by decide +kernel
theorem dX0_from_10 : decode cX0_from 10 = .ok (.iload_n 2, 1) := by decide +kernel
theorem dX0_from_11 : decode cX0_from 11 = .ok (.invokevirtual 31, 3) := by decide +kernel
theorem dX0_from_14 : decode cX0_from 14 = .ok (.aload_n 0, 1) := by decide +kernel
theorem dX0_from_15 : decode cX0_from 15 = .ok (.iload_n 2, 1) := by decide +kernel
theorem dX0_from_16 : decode cX0_from 16 = .ok (.iconst 1, 1) := by decide +kernel
theorem dX0_from_17 : decode cX0_from 17 = .ok (.iadd, 1) := by decide +kernel
theorem dX0_from_18 : decode cX0_from 18 = .ok (.invokevirtual 31, 3) := by decide +kernel
theorem dX0_from_21 : decode cX0_from 21 = .ok (.bipush 32, 2) := by decide +kernel
theorem dX0_from_23 : decode cX0_from 23 = .ok (.lshl, 1) := by decide +kernel
theorem dX0_from_24 : decode cX0_from 24 = .ok (.lor, 1) := by decide +kernel
theorem dX0_from_25 : decode cX0_from 25 = .ok (.lstore 4, 2) := by decide +kernel
theorem dX0_from_27 : decode cX0_from 27 = .ok (.iload_n 3, 1) := by decide +kernel
theorem dX0_from_28 : decode cX0_from 28 = .ok (.ifCond .ne 8, 3) := by decide +kernel
theorem dX0_from_31 : decode cX0_from 31 = .ok (.lload 4, 2) := by decide +kernel
theorem dX0_from_33 : decode cX0_from 33 = .ok (.goto 20, 3) := by decide +kernel
theorem dX0_from_36 : decode cX0_from 36 = .ok (.lload 4, 2) := by decide +kernel
theorem dX0_from_38 : decode cX0_from 38 = .ok (.iload_n 3, 1) := by decide +kernel
theorem dX0_from_39 : decode cX0_from 39 = .ok (.lushr, 1) := by decide +kernel
theorem dX0_from_40 : decode cX0_from 40 = .ok (.aload_n 0, 1) := by decide +kernel
theorem dX0_from_41 : decode cX0_from 41 = .ok (.iload_n 2, 1) := by decide +kernel
theorem dX0_from_42 : decode cX0_from 42 = .ok (.iconst 2, 1) := by decide +kernel
theorem dX0_from_43 : decode cX0_from 43 = .ok (.iadd, 1) := by decide +kernel
theorem dX0_from_44 : decode cX0_from 44 = .ok (.invokevirtual 31, 3) := by decide +kernel
theorem dX0_from_47 : decode cX0_from 47 = .ok (.bipush 64, 2) := by decide +kernel
theorem dX0_from_49 : decode cX0_from 49 = .ok (.iload_n 3, 1) := by decide +kernel
theorem dX0_from_50 : decode cX0_from 50 = .ok (.isub, 1) := by decide +kernel
theorem dX0_from_51 : decode cX0_from 51 = .ok (.lshl, 1) := by decide +kernel
theorem dX0_from_52 : decode cX0_from 52 = .ok (.lor, 1) := by decide +kernel
theorem dX0_from_53 : decode cX0_from 53 = .ok (.lreturn, 1) := by decide +kernel
abbrev r_X0_from : Room := { frames := 1, cells := 0, slots := 0, locals := 21 }
abbrev m_X0_from : xMd := (cX0_from, RX0, 6, (some FieldType.long), false, r_X0_from)
def b_X0_from_53 (Q : xQ) : xK := x_lret Q
def b_X0_from_0 (Q : xQ) : xK := x_iload 1 <| x_c (.int 5) <| x_ishr <| x_istore 2 <| x_iload 1 <| x_c (.int 31) <| x_iand <| x_istore 3 <| x_aload 0 <| x_iload 2 <| x_callv 1 C_X0_digit 2 0 0 <| x_aload 0 <| x_iload 2 <| x_c (.int 1) <| x_iadd <| x_callv 1 C_X0_digit 2 0 0 <| x_c (.int 32) <| x_lshl <| x_lor <| x_lstore 4 <| x_iload 3 <| x_if_ne (x_lload 4 <| x_iload 3 <| x_lushr <| x_aload 0 <| x_iload 2 <| x_c (.int 2) <| x_iadd <| x_callv 1 C_X0_digit 2 0 0 <| x_c (.int 64) <| x_iload 3 <| x_isub <| x_lshl <| x_lor <| (b_X0_from_53 Q)) <| x_lload 4 <| (b_X0_from_53 Q)
theorem s_X0_from_53 (G : xG) (l : Launch) (Q : xQ) : xW G l m_X0_from xX0 (xPm G Q r_X0_from) 53 (b_X0_from_53 Q) := xo_lret (pc := 53) rfl dX0_from_53
theorem s_X0_from_0 (G : xG) (l : Launch) (Q : xQ) : xW G l m_X0_from xX0 (xPm G Q r_X0_from) 0 (b_X0_from_0 Q) := xo_iload_n (pc := 0) (i := 1) dX0_from_0 rfl <| xo_iconst (pc := 1) dX0_from_1 (by decide) <| xo_ishr (pc := 2) dX0_from_2 <| xo_istore_n (pc := 3) (i := 2) dX0_from_3 rfl (by decide) <| xo_iload_n (pc := 4) (i := 1) dX0_from_4 rfl <| xo_bipush (pc := 5) dX0_from_5 (by decide) <| xo_iand (pc := 7) dX0_from_7 <| xo_istore_n (pc := 8) (i := 3) dX0_from_8 rfl (by decide) <| xo_aload_n (pc := 9) (i := 0) dX0_from_9 rfl <| xo_iload_n (pc := 10) (i := 2) dX0_from_10 rfl <| xo_callV (pc := 11) (np := 1) (ci := 1) rfl (cM_X0_digit G l) dX0_from_11 kw587 kw584 kw585 kw586 kw6 (by decide +kernel) (by decide) <| xo_aload_n (pc := 14) (i := 0) dX0_from_14 rfl <| xo_iload_n (pc := 15) (i := 2) dX0_from_15 rfl <| xo_iconst (pc := 16) dX0_from_16 (by decide) <| xo_iadd (pc := 17) dX0_from_17 <| xo_callV (pc := 18) (np := 1) (ci := 1) rfl (cM_X0_digit G l) dX0_from_18 kw587 kw584 kw585 kw586 kw6 (by decide +kernel) (by decide) <| xo_bipush (pc := 21) dX0_from_21 (by decide) <| xo_lshl (pc := 23) dX0_from_23 <| xo_lor (pc := 24) dX0_from_24 <| xo_lstore (pc := 25) (i := 4) dX0_from_25 (by decide) <| xo_iload_n (pc := 27) (i := 3) dX0_from_27 rfl <| xo_if_ne (pc := 28) (tgt := 36) dX0_from_28 (by decide) (xo_lload (pc := 36) (i := 4) dX0_from_36 <| xo_iload_n (pc := 38) (i := 3) dX0_from_38 rfl <| xo_lushr (pc := 39) dX0_from_39 <| xo_aload_n (pc := 40) (i := 0) dX0_from_40 rfl <| xo_iload_n (pc := 41) (i := 2) dX0_from_41 rfl <| xo_iconst (pc := 42) dX0_from_42 (by decide) <| xo_iadd (pc := 43) dX0_from_43 <| xo_callV (pc := 44) (np := 1) (ci := 1) rfl (cM_X0_digit G l) dX0_from_44 kw587 kw584 kw585 kw586 kw6 (by decide +kernel) (by decide) <| xo_bipush (pc := 47) dX0_from_47 (by decide) <| xo_iload_n (pc := 49) (i := 3) dX0_from_49 rfl <| xo_isub (pc := 50) dX0_from_50 <| xo_lshl (pc := 51) dX0_from_51 <| xo_lor (pc := 52) dX0_from_52 <| (s_X0_from_53 G l Q)) <| xo_lload (pc := 31) (i := 4) dX0_from_31 <| xo_goto (pc := 33) (tgt := 53) dX0_from_33 (by decide) <| (s_X0_from_53 G l Q)

theorem bv_pos (f : Nat → Int32) (n w : Nat) : bv f n / 2 ^ (32 * w) % 2 ^ 32 = dg f n w := by
  unfold dg
  split
  · exact bv_div f (by assumption)
  · have h1 := bv_lt f n
    have h2 : 2 ^ (32 * n) ≤ 2 ^ (32 * w) := Nat.pow_le_pow_right (by decide) (by omega)
    rw [Nat.div_eq_of_lt (by omega)]
theorem bv_three (f : Nat → Int32) (n w : Nat) : bv f n / 2 ^ (32 * w) % 2 ^ 96 = dg f n w + dg f n (w + 1) * 2 ^ 32 + dg f n (w + 2) * 2 ^ 64 := by
  have h0 := bv_pos f n w
  have h1 := bv_pos f n (w + 1)
  have h2 := bv_pos f n (w + 2)
  rw [show 32 * (w + 1) = 32 * w + 32 by omega, Nat.pow_add, ← Nat.div_div_eq_div_mul] at h1
  rw [show 32 * (w + 2) = 32 * w + 64 by omega, Nat.pow_add, ← Nat.div_div_eq_div_mul] at h2
  generalize bv f n / 2 ^ (32 * w) = x at *
  omega
def C_X0_from : xC := fun av S Q => ∃ t u p, av = [.ref t, .int (nI p)] ∧ bigV S.1 t u ∧ p < 2 ^ 30 ∧ Q (some (.long (lN (u / 2 ^ p % 2 ^ 64)))) S
theorem cM_X0_from (G : xG) (l : Launch) : xM G l yX0_from cX0_from 6 (some FieldType.long) r_X0_from C_X0_from := by
  refine xM_of (fun Q => b_X0_from_0 Q) RX0 false (s_X0_from_0 G l) (by decide) rfl (by decide) ?_
  rintro av S Q ⟨t, u, p, rfl, ⟨f, n, r, rfl, z0⟩, hp, hQ⟩
  refine ⟨Nat.le_of_ble_eq_true rfl, ?_⟩
  have e5 : nI p >>> ((5 : Int32) &&& 31) = nI (p / 2 ^ 5) := pk_shrN (by omega) _ 5 (by decide)
  have e31 : nI p &&& (31 : Int32) = nI (p % 2 ^ 5) := pk_andN (by omega) 5 (by decide)
  have g1 : nI (p / 2 ^ 5) + 1 = nI (p / 2 ^ 5 + 1) := nI_1 _
  have g2 : nI (p / 2 ^ 5) + 2 = nI (p / 2 ^ 5 + 2) := nI_add _ 2
  have g3 : (64 : Int32) - nI (p % 2 ^ 5) = nI (64 - p % 2 ^ 5) := pk_sub (a := 64) (by omega)
  simp only [x_c, x_iload, x_lload, x_aload, x_istore, x_lstore, x_astore, x_iinc, x_iadd, x_isub, x_imul, x_iand, x_ior, x_ixor, x_ladd, x_lsub, x_lmul, x_land, x_lor, x_lxor, x_idiv, x_irem, x_ldiv, x_lrem, x_ineg, x_lneg, x_ishl, x_ishr, x_iushr, x_lshl, x_lshr, x_lushr, x_i2l, x_l2i, x_i2b, x_i2c, x_lcmp, x_if_eq, x_if_ne, x_if_lt, x_if_ge, x_if_gt, x_if_le, x_icmp_eq, x_icmp_ne, x_icmp_lt, x_icmp_ge, x_icmp_gt, x_icmp_le, x_dup, x_pop, x_dup_x1, x_dup2, x_iret, x_zret, x_lret, x_aret, x_vret, x_call, x_callv, x_calli, x_oinit, x_mmax, x_mmin, x_mabs, x_mmaxL, x_mminL, x_mabsL, lg_cmp_ge, lg_cmp_le, lg_cmp_gt, lg_cmp_lt, lg_cmp_eq, xlk, xs1, xs2, lv_args, Value.category, List.filter_cons, List.filter_nil, Nat.reduceAdd, Nat.reduceBEq, Nat.reduceEqDiff, Nat.reduceSub, Nat.sub_zero, beq_self_eq_true, Bool.not_true, Bool.not_false, Bool.and_true, Bool.and_false, Bool.true_and, Bool.false_and, reduceIte, reduceCtorEq, Bool.false_eq_true, Nat.one_ne_zero, Nat.zero_ne_one, Nat.zero_add, Option.toList_some, Option.toList_none, List.nil_append, List.cons_append, List.take_succ_cons, List.take_zero, List.take_nil, List.drop_succ_cons, List.drop_zero, List.length_cons, List.length_nil, List.reverse_cons, List.reverse_nil, List.head?_cons, List.map_cons, List.map_nil, List.sum_cons, List.sum_nil, true_and, and_true, List.getElem?_cons_zero, List.getElem?_cons_succ, Prod.eta, x_get, x_put, x_iald, x_iast, x_bald, x_bast, x_lald, x_last, x_alen, xup_s, xup_a1, xup_1a, xup_uu, nr_i, nr_l, nr_o, nr_a, ft_i, ft_l, ft_o, ft_a, Nat.reduceLT, i_cl0, i_cl1, i_n1, i_m1, List.set_cons_zero, List.set_cons_succ, Nat.reduceLeDiff, Nat.le_refl, Nat.zero_le, Nat.add_zero, b_X0_from_0, b_X0_from_53, e5, e31, g1, g2, g3]
  refine ⟨⟨t, _, rfl, r.1⟩, t, f, n, _, r, rfl, ?_⟩
  simp only [x_c, x_iload, x_lload, x_aload, x_istore, x_lstore, x_astore, x_iinc, x_iadd, x_isub, x_imul, x_iand, x_ior, x_ixor, x_ladd, x_lsub, x_lmul, x_land, x_lor, x_lxor, x_idiv, x_irem, x_ldiv, x_lrem, x_ineg, x_lneg, x_ishl, x_ishr, x_iushr, x_lshl, x_lshr, x_lushr, x_i2l, x_l2i, x_i2b, x_i2c, x_lcmp, x_if_eq, x_if_ne, x_if_lt, x_if_ge, x_if_gt, x_if_le, x_icmp_eq, x_icmp_ne, x_icmp_lt, x_icmp_ge, x_icmp_gt, x_icmp_le, x_dup, x_pop, x_dup_x1, x_dup2, x_iret, x_zret, x_lret, x_aret, x_vret, x_call, x_callv, x_calli, x_oinit, x_mmax, x_mmin, x_mabs, x_mmaxL, x_mminL, x_mabsL, lg_cmp_ge, lg_cmp_le, lg_cmp_gt, lg_cmp_lt, lg_cmp_eq, xlk, xs1, xs2, lv_args, Value.category, List.filter_cons, List.filter_nil, Nat.reduceAdd, Nat.reduceBEq, Nat.reduceEqDiff, Nat.reduceSub, Nat.sub_zero, beq_self_eq_true, Bool.not_true, Bool.not_false, Bool.and_true, Bool.and_false, Bool.true_and, Bool.false_and, reduceIte, reduceCtorEq, Bool.false_eq_true, Nat.one_ne_zero, Nat.zero_ne_one, Nat.zero_add, Option.toList_some, Option.toList_none, List.nil_append, List.cons_append, List.take_succ_cons, List.take_zero, List.take_nil, List.drop_succ_cons, List.drop_zero, List.length_cons, List.length_nil, List.reverse_cons, List.reverse_nil, List.head?_cons, List.map_cons, List.map_nil, List.sum_cons, List.sum_nil, true_and, and_true, List.getElem?_cons_zero, List.getElem?_cons_succ, Prod.eta, x_get, x_put, x_iald, x_iast, x_bald, x_bast, x_lald, x_last, x_alen, xup_s, xup_a1, xup_1a, xup_uu, nr_i, nr_l, nr_o, nr_a, ft_i, ft_l, ft_o, ft_a, Nat.reduceLT, i_cl0, i_cl1, i_n1, i_m1, List.set_cons_zero, List.set_cons_succ, Nat.reduceLeDiff, Nat.le_refl, Nat.zero_le, Nat.add_zero]
  refine ⟨⟨t, _, rfl, r.1⟩, t, f, n, _, r, rfl, ?_⟩
  have d0 := dg_lt f n (p / 2 ^ 5)
  have d1 := dg_lt f n (p / 2 ^ 5 + 1)
  have d2 := dg_lt f n (p / 2 ^ 5 + 2)
  have s32 : ∀ x : Nat, lN x <<< ((32 : Int32).toInt64 &&& 63) = lN (x * 2 ^ 32) := fun x => wb_shl x (k := 32) (by decide)
  have eL : lN (dg f n (p / 2 ^ 5)) ||| lN (dg f n (p / 2 ^ 5 + 1) * 2 ^ 32) = lN (dg f n (p / 2 ^ 5) + dg f n (p / 2 ^ 5 + 1) * 2 ^ 32) := g_or' (k := 32) rfl (by omega) (by omega)
  have er : nI (p % 2 ^ 5) = 0 ↔ p % 2 ^ 5 = 0 := nI_eq (b := 0) (by omega) (by decide)
  simp only [x_c, x_iload, x_lload, x_aload, x_istore, x_lstore, x_astore, x_iinc, x_iadd, x_isub, x_imul, x_iand, x_ior, x_ixor, x_ladd, x_lsub, x_lmul, x_land, x_lor, x_lxor, x_idiv, x_irem, x_ldiv, x_lrem, x_ineg, x_lneg, x_ishl, x_ishr, x_iushr, x_lshl, x_lshr, x_lushr, x_i2l, x_l2i, x_i2b, x_i2c, x_lcmp, x_if_eq, x_if_ne, x_if_lt, x_if_ge, x_if_gt, x_if_le, x_icmp_eq, x_icmp_ne, x_icmp_lt, x_icmp_ge, x_icmp_gt, x_icmp_le, x_dup, x_pop, x_dup_x1, x_dup2, x_iret, x_zret, x_lret, x_aret, x_vret, x_call, x_callv, x_calli, x_oinit, x_mmax, x_mmin, x_mabs, x_mmaxL, x_mminL, x_mabsL, lg_cmp_ge, lg_cmp_le, lg_cmp_gt, lg_cmp_lt, lg_cmp_eq, xlk, xs1, xs2, lv_args, Value.category, List.filter_cons, List.filter_nil, Nat.reduceAdd, Nat.reduceBEq, Nat.reduceEqDiff, Nat.reduceSub, Nat.sub_zero, beq_self_eq_true, Bool.not_true, Bool.not_false, Bool.and_true, Bool.and_false, Bool.true_and, Bool.false_and, reduceIte, reduceCtorEq, Bool.false_eq_true, Nat.one_ne_zero, Nat.zero_ne_one, Nat.zero_add, Option.toList_some, Option.toList_none, List.nil_append, List.cons_append, List.take_succ_cons, List.take_zero, List.take_nil, List.drop_succ_cons, List.drop_zero, List.length_cons, List.length_nil, List.reverse_cons, List.reverse_nil, List.head?_cons, List.map_cons, List.map_nil, List.sum_cons, List.sum_nil, true_and, and_true, List.getElem?_cons_zero, List.getElem?_cons_succ, Prod.eta, x_get, x_put, x_iald, x_iast, x_bald, x_bast, x_lald, x_last, x_alen, xup_s, xup_a1, xup_1a, xup_uu, nr_i, nr_l, nr_o, nr_a, ft_i, ft_l, ft_o, ft_a, Nat.reduceLT, i_cl0, i_cl1, i_n1, i_m1, List.set_cons_zero, List.set_cons_succ, Nat.reduceLeDiff, Nat.le_refl, Nat.zero_le, Nat.add_zero, dgt_nI f n (show p / 2 ^ 5 < 2 ^ 31 by omega), dgt_nI f n (show p / 2 ^ 5 + 1 < 2 ^ 31 by omega), s32, eL, er]
  have h3 := bv_three f n (p / 2 ^ 5)
  have ep : 2 ^ p = 2 ^ (32 * (p / 2 ^ 5)) * 2 ^ (p % 2 ^ 5) := by rw [← Nat.pow_add]; congr 1; omega
  rw [ep, ← Nat.div_div_eq_div_mul] at hQ
  generalize bv f n / 2 ^ (32 * (p / 2 ^ 5)) = x at *
  generalize dg f n (p / 2 ^ 5) = a0 at *
  generalize dg f n (p / 2 ^ 5 + 1) = a1 at *
  generalize ea2 : dg f n (p / 2 ^ 5 + 2) = a2 at *
  refine ⟨fun z => ?_, fun z => ?_⟩
  · have hr : p % 2 ^ 5 < 32 := by omega
    refine ⟨⟨t, _, rfl, r.1⟩, t, f, n, _, r, rfl, ?_⟩
    generalize p % 2 ^ 5 = ρ at *
    have sL : ∀ x : Nat, lN x <<< ((nI (64 - ρ)).toInt64 &&& 63) = lN (x * 2 ^ (64 - ρ)) := fun x => wb_shl x (k := 64 - ρ) (by omega)
    have sR : ((lN (a0 + a1 * 2 ^ 32)).toUInt64 >>> ((nI ρ).toInt64.toUInt64 &&& Int64.toUInt64 63)).toInt64 = lN ((a0 + a1 * 2 ^ 32) / 2 ^ ρ) := wb_shr (k := ρ) (by omega) (by omega)
    simp only [x_c, x_iload, x_lload, x_aload, x_istore, x_lstore, x_astore, x_iinc, x_iadd, x_isub, x_imul, x_iand, x_ior, x_ixor, x_ladd, x_lsub, x_lmul, x_land, x_lor, x_lxor, x_idiv, x_irem, x_ldiv, x_lrem, x_ineg, x_lneg, x_ishl, x_ishr, x_iushr, x_lshl, x_lshr, x_lushr, x_i2l, x_l2i, x_i2b, x_i2c, x_lcmp, x_if_eq, x_if_ne, x_if_lt, x_if_ge, x_if_gt, x_if_le, x_icmp_eq, x_icmp_ne, x_icmp_lt, x_icmp_ge, x_icmp_gt, x_icmp_le, x_dup, x_pop, x_dup_x1, x_dup2, x_iret, x_zret, x_lret, x_aret, x_vret, x_call, x_callv, x_calli, x_oinit, x_mmax, x_mmin, x_mabs, x_mmaxL, x_mminL, x_mabsL, lg_cmp_ge, lg_cmp_le, lg_cmp_gt, lg_cmp_lt, lg_cmp_eq, xlk, xs1, xs2, lv_args, Value.category, List.filter_cons, List.filter_nil, Nat.reduceAdd, Nat.reduceBEq, Nat.reduceEqDiff, Nat.reduceSub, Nat.sub_zero, beq_self_eq_true, Bool.not_true, Bool.not_false, Bool.and_true, Bool.and_false, Bool.true_and, Bool.false_and, reduceIte, reduceCtorEq, Bool.false_eq_true, Nat.one_ne_zero, Nat.zero_ne_one, Nat.zero_add, Option.toList_some, Option.toList_none, List.nil_append, List.cons_append, List.take_succ_cons, List.take_zero, List.take_nil, List.drop_succ_cons, List.drop_zero, List.length_cons, List.length_nil, List.reverse_cons, List.reverse_nil, List.head?_cons, List.map_cons, List.map_nil, List.sum_cons, List.sum_nil, true_and, and_true, List.getElem?_cons_zero, List.getElem?_cons_succ, Prod.eta, x_get, x_put, x_iald, x_iast, x_bald, x_bast, x_lald, x_last, x_alen, xup_s, xup_a1, xup_1a, xup_uu, nr_i, nr_l, nr_o, nr_a, ft_i, ft_l, ft_o, ft_a, Nat.reduceLT, i_cl0, i_cl1, i_n1, i_m1, List.set_cons_zero, List.set_cons_succ, Nat.reduceLeDiff, Nat.le_refl, Nat.zero_le, Nat.add_zero, dgt_nI f n (show p / 2 ^ 5 + 2 < 2 ^ 31 by omega), ea2, sL, sR]
    rw [wb_mod (a2 * 2 ^ (64 - ρ))]
    have e6 : (2 : Nat) ^ 64 = 2 ^ ρ * 2 ^ (64 - ρ) := by rw [← Nat.pow_add]; congr 1; omega
    have e7 : a2 * 2 ^ (64 - ρ) % 2 ^ 64 = (a2 % 2 ^ ρ) * 2 ^ (64 - ρ) := by rw [e6, Nat.mul_mod_mul_right]
    have hlo : (a0 + a1 * 2 ^ 32) / 2 ^ ρ < 2 ^ (64 - ρ) := by
      rw [Nat.div_lt_iff_lt_mul (Nat.two_pow_pos ρ), Nat.mul_comm (2 ^ (64 - ρ)), ← e6]; omega
    have hhi : (a2 % 2 ^ ρ) * 2 ^ (64 - ρ) + 2 ^ (64 - ρ) ≤ 2 ^ 64 := by
      have : (a2 % 2 ^ ρ + 1) * 2 ^ (64 - ρ) ≤ 2 ^ ρ * 2 ^ (64 - ρ) := Nat.mul_le_mul_right _ (Nat.mod_lt _ (Nat.two_pow_pos ρ))
      rw [Nat.add_mul, Nat.one_mul, ← e6] at this
      exact this
    rw [e7, g_or' (k := 64 - ρ) rfl hlo (by omega)]
    have e8 : x / 2 ^ ρ % 2 ^ 64 = (a0 + a1 * 2 ^ 32) / 2 ^ ρ + (a2 % 2 ^ ρ) * 2 ^ (64 - ρ) := by
      have hx : x = (a0 + a1 * 2 ^ 32) + 2 ^ 64 * (x / 2 ^ 64) := by omega
      have hy : x / 2 ^ 64 % 2 ^ 32 = a2 := by omega
      generalize x / 2 ^ 64 = y at *
      rw [hx, e6, Nat.mul_assoc, Nat.add_mul_div_left _ _ (Nat.two_pow_pos ρ)]
      have hy2 : a2 % 2 ^ ρ = y % 2 ^ ρ := by rw [← hy]; exact Nat.mod_mod_of_dvd _ (Nat.pow_dvd_pow 2 (by omega))
      rw [hy2, Nat.mul_comm (2 ^ ρ) (2 ^ (64 - ρ)), Nat.mod_mul, Nat.add_mul_mod_self_left, Nat.mod_eq_of_lt hlo, Nat.add_mul_div_left _ _ (Nat.two_pow_pos _), Nat.div_eq_of_lt hlo, Nat.zero_add]
      ac_rfl
    rw [← e8]
    exact hQ
  · rw [z] at hQ
    rw [show a0 + a1 * 2 ^ 32 = x / 2 ^ 0 % 2 ^ 64 by rw [Nat.pow_zero, Nat.div_one]; omega]
    exact hQ
theorem dX0_anyBelow_0 : decode cX0_anyBelow 0 = .ok (.iload_n 1, 1) := by decide +kernel
theorem dX0_anyBelow_1 : decode cX0_anyBelow 1 = .ok (.iconst 5, 1) := by decide +kernel
theorem dX0_anyBelow_2 : decode cX0_anyBelow 2 = .ok (.ishr, 1) := by decide +kernel
theorem dX0_anyBelow_3 : decode cX0_anyBelow 3 = .ok (.aload_n 0, 1) := by decide +kernel
theorem dX0_anyBelow_4 : decode cX0_anyBelow 4 = .ok (.getfield 13, 3) := by decide +kernel
theorem dX0_anyBelow_7 : decode cX0_anyBelow 7 = .ok (.invokestatic 48, 3) := by decide +kernel
theorem dX0_anyBelow_10 : decode cX0_anyBelow 10 = .ok (.istore_n 2, 1) := by decide +kernel
theorem dX0_anyBelow_11 : decode cX0_anyBelow 11 = .ok (.iconst 0, 1) := by decide +kernel
theorem dX0_anyBelow_12 : decode cX0_anyBelow 12 = .ok (.istore_n 3, 1) := by decide +kernel
theorem dX0_anyBelow_13 : decode cX0_anyBelow 13 = .ok (.iload_n 3, 1) := by decide +kernel
theorem dX0_anyBelow_14 : decode cX0_anyBelow 14 = .ok (.iload_n 2, 1) := by decide +kernel
theorem dX0_anyBelow_15 : decode cX0_anyBelow 15 = .ok (.if_icmp .ge 20, 3) := by decide +kernel
theorem dX0_anyBelow_18 : decode cX0_anyBelow 18 = .ok (.aload_n 0, 1) := by decide +kernel
theorem dX0_anyBelow_19 : decode cX0_anyBelow 19 = .ok (.getfield 9, 3) := by decide +kernel
theorem dX0_anyBelow_22 : decode cX0_anyBelow 22 = .ok (.iload_n 3, 1) := by decide +kernel
theorem dX0_anyBelow_23 : decode cX0_anyBelow 23 = .ok (.iaload, 1) := by decide +kernel
theorem dX0_anyBelow_24 : decode cX0_anyBelow 24 = .ok (.ifCond .eq 5, 3) := by decide +kernel
theorem dX0_anyBelow_27 : decode cX0_anyBelow 27 = .ok (.iconst 1, 1) := by decide +kernel
theorem dX0_anyBelow_28 : decode cX0_anyBelow 28 = .ok (.ireturn, 1) := by decide +kernel
theorem dX0_anyBelow_29 : decode cX0_anyBelow 29 = .ok (.iinc 3 1, 3) := by decide +kernel
theorem dX0_anyBelow_32 : decode cX0_anyBelow 32 = .ok (.goto (-19), 3) := by decide +kernel
theorem dX0_anyBelow_35 : decode cX0_anyBelow 35 = .ok (.aload_n 0, 1) := by decide +kernel
theorem dX0_anyBelow_36 : decode cX0_anyBelow 36 = .ok (.iload_n 2, 1) := by decide +kernel
theorem dX0_anyBelow_37 : decode cX0_anyBelow 37 = .ok (.invokevirtual 31, 3) := by decide +kernel
theorem dX0_anyBelow_40 : decode cX0_anyBelow 40 = .ok (.lconst 1, 1) := by decide +kernel
theorem dX0_anyBelow_41 : decode cX0_anyBelow 41 = .ok (.iload_n 1, 1) := by decide +kernel
theorem dX0_anyBelow_42 : decode cX0_anyBelow 42 = .ok (.bipush 31, 2) := by decide +kernel
theorem dX0_anyBelow_44 : decode cX0_anyBelow 44 = .ok (.iand, 1) := by decide +kernel
theorem dX0_anyBelow_45 : decode cX0_anyBelow 45 = .ok (.lshl, 1) := by decide +kernel
theorem dX0_anyBelow_46 : decode cX0_anyBelow 46 = .ok (.lconst 1, 1) := by decide +kernel
theorem dX0_anyBelow_47 : decode cX0_anyBelow 47 = .ok (.lsub, 1) := by decide +kernel
theorem dX0_anyBelow_48 : decode cX0_anyBelow 48 = .ok (.land, 1) := by decide +kernel
theorem dX0_anyBelow_49 : decode cX0_anyBelow 49 = .ok (.lconst 0, 1) := by decide +kernel
theorem dX0_anyBelow_50 : decode cX0_anyBelow 50 = .ok (.lcmp, 1) := by decide +kernel
theorem dX0_anyBelow_51 : decode cX0_anyBelow 51 = .ok (.ifCond .eq 7, 3) := by decide +kernel
theorem dX0_anyBelow_54 : decode cX0_anyBelow 54 = .ok (.iconst 1, 1) := by decide +kernel
theorem dX0_anyBelow_55 : decode cX0_anyBelow 55 = .ok (.goto 4, 3) := by decide +kernel
theorem dX0_anyBelow_58 : decode cX0_anyBelow 58 = .ok (.iconst 0, 1) := by decide +kernel
theorem dX0_anyBelow_59 : decode cX0_anyBelow 59 = .ok (.ireturn, 1) := by decide +kernel
abbrev r_X0_anyBelow : Room := { frames := 1, cells := 0, slots := 0, locals := 21 }
abbrev m_X0_anyBelow : xMd := (cX0_anyBelow, RX0, 4, (some FieldType.boolean), false, r_X0_anyBelow)
def b_X0_anyBelow_0 (Q : xQ) (K13 : xK) : xK := x_iload 1 <| x_c (.int 5) <| x_ishr <| x_aload 0 <| x_get 1 1 <| x_mmin <| x_istore 2 <| x_c (.int 0) <| x_istore 3 <| K13
def b_X0_anyBelow_59 (Q : xQ) (K13 : xK) : xK := x_zret FieldType.boolean Q
def b_X0_anyBelow_13 (Q : xQ) (K13 : xK) : xK := x_iload 3 <| x_iload 2 <| x_icmp_ge (x_aload 0 <| x_iload 2 <| x_callv 1 C_X0_digit 2 0 0 <| x_c (.long 1) <| x_iload 1 <| x_c (.int 31) <| x_iand <| x_lshl <| x_c (.long 1) <| x_lsub <| x_land <| x_c (.long 0) <| x_lcmp <| x_if_eq (x_c (.int 0) <| (b_X0_anyBelow_59 Q K13)) <| x_c (.int 1) <| (b_X0_anyBelow_59 Q K13)) <| x_aload 0 <| x_get 1 0 <| x_iload 3 <| x_iald <| x_if_eq (x_iinc 3 1 <| K13) <| x_c (.int 1) <| x_zret FieldType.boolean Q
theorem s_X0_anyBelow_0 (G : xG) (l : Launch) (Q : xQ) (K13 : xK) (h13 : xW G l m_X0_anyBelow xX0 (xPm G Q r_X0_anyBelow) 13 K13) : xW G l m_X0_anyBelow xX0 (xPm G Q r_X0_anyBelow) 0 (b_X0_anyBelow_0 Q K13) := xo_iload_n (pc := 0) (i := 1) dX0_anyBelow_0 rfl <| xo_iconst (pc := 1) dX0_anyBelow_1 (by decide) <| xo_ishr (pc := 2) dX0_anyBelow_2 <| xo_aload_n (pc := 3) (i := 0) dX0_anyBelow_3 rfl <| xo_get (pc := 4) (ci := 1) (i := 1) rfl ok1 (by decide) dX0_anyBelow_4 kw77 <| xo_mmin (pc := 7) dX0_anyBelow_7 kw632 kw331 kw17 kw332 (by decide) <| xo_istore_n (pc := 10) (i := 2) dX0_anyBelow_10 rfl (by decide) <| xo_iconst (pc := 11) dX0_anyBelow_11 (by decide) <| xo_istore_n (pc := 12) (i := 3) dX0_anyBelow_12 rfl (by decide) <| h13
theorem s_X0_anyBelow_59 (G : xG) (l : Launch) (Q : xQ) (K13 : xK) (h13 : xW G l m_X0_anyBelow xX0 (xPm G Q r_X0_anyBelow) 13 K13) : xW G l m_X0_anyBelow xX0 (xPm G Q r_X0_anyBelow) 59 (b_X0_anyBelow_59 Q K13) := xo_zret (pc := 59) rfl dX0_anyBelow_59
theorem s_X0_anyBelow_13 (G : xG) (l : Launch) (Q : xQ) (K13 : xK) (h13 : xW G l m_X0_anyBelow xX0 (xPm G Q r_X0_anyBelow) 13 K13) : xW G l m_X0_anyBelow xX0 (xPm G Q r_X0_anyBelow) 13 (b_X0_anyBelow_13 Q K13) := xo_iload_n (pc := 13) (i := 3) dX0_anyBelow_13 rfl <| xo_iload_n (pc := 14) (i := 2) dX0_anyBelow_14 rfl <| xo_icmp_ge (pc := 15) (tgt := 35) dX0_anyBelow_15 (by decide) (xo_aload_n (pc := 35) (i := 0) dX0_anyBelow_35 rfl <| xo_iload_n (pc := 36) (i := 2) dX0_anyBelow_36 rfl <| xo_callV (pc := 37) (np := 1) (ci := 1) rfl (cM_X0_digit G l) dX0_anyBelow_37 kw587 kw584 kw585 kw586 kw6 (by decide +kernel) (by decide) <| xo_lconst (pc := 40) dX0_anyBelow_40 (by decide) <| xo_iload_n (pc := 41) (i := 1) dX0_anyBelow_41 rfl <| xo_bipush (pc := 42) dX0_anyBelow_42 (by decide) <| xo_iand (pc := 44) dX0_anyBelow_44 <| xo_lshl (pc := 45) dX0_anyBelow_45 <| xo_lconst (pc := 46) dX0_anyBelow_46 (by decide) <| xo_lsub (pc := 47) dX0_anyBelow_47 <| xo_land (pc := 48) dX0_anyBelow_48 <| xo_lconst (pc := 49) dX0_anyBelow_49 (by decide) <| xo_lcmp (pc := 50) dX0_anyBelow_50 <| xo_if_eq (pc := 51) (tgt := 58) dX0_anyBelow_51 (by decide) (xo_iconst (pc := 58) dX0_anyBelow_58 (by decide) <| (s_X0_anyBelow_59 G l Q K13 h13)) <| xo_iconst (pc := 54) dX0_anyBelow_54 (by decide) <| xo_goto (pc := 55) (tgt := 59) dX0_anyBelow_55 (by decide) <| (s_X0_anyBelow_59 G l Q K13 h13)) <| xo_aload_n (pc := 18) (i := 0) dX0_anyBelow_18 rfl <| xo_get (pc := 19) (ci := 1) (i := 0) rfl ok1 (by decide) dX0_anyBelow_19 kw76 <| xo_iload_n (pc := 22) (i := 3) dX0_anyBelow_22 rfl <| xo_iald (pc := 23) dX0_anyBelow_23 <| xo_if_eq (pc := 24) (tgt := 29) dX0_anyBelow_24 (by decide) (xo_iinc (pc := 29) dX0_anyBelow_29 (by decide) <| xo_goto (pc := 32) (tgt := 13) dX0_anyBelow_32 (by decide) <| h13) <| xo_iconst (pc := 27) dX0_anyBelow_27 (by decide) <| xo_zret (pc := 28) rfl dX0_anyBelow_28

def C_X0_anyBelow : xC := fun av S Q => ∃ t u p, av = [.ref t, .int (nI p)] ∧ bigV S.1 t u ∧ p < 2 ^ 30 ∧ Q (some (.int (if u % 2 ^ p = 0 then 0 else 1))) S
def cn_X0_anyBelow : Nat × Nat × Nat × Nat → List (Nat × Value) := fun v => [(0, .ref v.1), (1, .int (nI v.2.1)), (2, .int (nI v.2.2.1)), (3, .int (nI v.2.2.2))]
def I_X0_anyBelow (Q : xQ) : Nat → Nat × Nat × Nat × Nat → xS → Prop := fun k v S => match v with
  | (t, p, w, i) => ∃ f n, bigR S.1 t f n ∧ p < 2 ^ 30 ∧ w = min (p / 32) n ∧ k + i = w ∧ (∀ j, j < i → f j = 0) ∧ Q (some (.int (if bv f n % 2 ^ p = 0 then 0 else 1))) S
theorem bv_zero {f : Nat → Int32} {n : Nat} (h : ∀ j, j < n → f j = 0) : bv f n = 0 := by
  induction n with
  | zero => rfl
  | succ n ih => rw [bv, ih (fun j hj => h j (by omega)), h n (by omega), show wn 0 = 0 by decide, Nat.zero_mul]
theorem bv_mod (f : Nat → Int32) {n i : Nat} (h : i ≤ n) : bv f n % 2 ^ (32 * i) = bv f i := by
  induction n with
  | zero => rw [show i = 0 by omega]; rfl
  | succ n ih =>
    rcases Nat.lt_or_ge n i with q | q
    · rw [show i = n + 1 by omega, Nat.mod_eq_of_lt (bv_lt f (n + 1))]
    · rw [bv, show 32 * n = 32 * i + 32 * (n - i) by omega, Nat.pow_add, Nat.mul_comm (2 ^ (32 * i)), ← Nat.mul_assoc, Nat.add_mul_mod_self_right, ih q]
theorem cM_X0_anyBelow (G : xG) (l : Launch) : xM G l yX0_anyBelow cX0_anyBelow 4 (some FieldType.boolean) r_X0_anyBelow C_X0_anyBelow := by
  refine xM_of (fun Q => b_X0_anyBelow_0 Q (xInv cn_X0_anyBelow (I_X0_anyBelow Q))) RX0 false (fun Q => s_X0_anyBelow_0 G l Q _ (xW.lp (b_X0_anyBelow_13 Q) (fun K hK => s_X0_anyBelow_13 G l Q K hK) ?_)) (by decide) rfl (by decide) ?_
  · rintro k ⟨t, p, w, i⟩ S ⟨f, n, r, hp, hw, hk, hz, hQ⟩
    have n2 := r.2.2
    have en := nI_leI (show w < 2 ^ 31 by omega) (show i < 2 ^ 31 by omega)
    have ci := nI_clamp (show i < 2 ^ 31 by omega)
    have e31 : nI p &&& (31 : Int32) = nI (p % 2 ^ 5) := pk_andN (by omega) 5 (by decide)
    have sL : (1 : Int64) <<< ((nI (p % 2 ^ 5)).toInt64 &&& 63) = lN (1 * 2 ^ (p % 2 ^ 5)) := wb_shl 1 (k := p % 2 ^ 5) (by omega)
    have hP : 2 ^ (p % 2 ^ 5) ≤ 2 ^ 31 := Nat.pow_le_pow_right (by decide) (by omega)
    have hP1 := Nat.two_pow_pos (p % 2 ^ 5)
    have sS : lN (1 * 2 ^ (p % 2 ^ 5)) - 1 = lN (2 ^ (p % 2 ^ 5) - 1) := by rw [Nat.one_mul]; exact lN_sub (b := 1) (by omega)
    simp only [x_c, x_iload, x_lload, x_aload, x_istore, x_lstore, x_astore, x_iinc, x_iadd, x_isub, x_imul, x_iand, x_ior, x_ixor, x_ladd, x_lsub, x_lmul, x_land, x_lor, x_lxor, x_idiv, x_irem, x_ldiv, x_lrem, x_ineg, x_lneg, x_ishl, x_ishr, x_iushr, x_lshl, x_lshr, x_lushr, x_i2l, x_l2i, x_i2b, x_i2c, x_lcmp, x_if_eq, x_if_ne, x_if_lt, x_if_ge, x_if_gt, x_if_le, x_icmp_eq, x_icmp_ne, x_icmp_lt, x_icmp_ge, x_icmp_gt, x_icmp_le, x_dup, x_pop, x_dup_x1, x_dup2, x_iret, x_zret, x_lret, x_aret, x_vret, x_call, x_callv, x_calli, x_oinit, x_mmax, x_mmin, x_mabs, x_mmaxL, x_mminL, x_mabsL, lg_cmp_ge, lg_cmp_le, lg_cmp_gt, lg_cmp_lt, lg_cmp_eq, xlk, xs1, xs2, lv_args, Value.category, List.filter_cons, List.filter_nil, Nat.reduceAdd, Nat.reduceBEq, Nat.reduceEqDiff, Nat.reduceSub, Nat.sub_zero, beq_self_eq_true, Bool.not_true, Bool.not_false, Bool.and_true, Bool.and_false, Bool.true_and, Bool.false_and, reduceIte, reduceCtorEq, Bool.false_eq_true, Nat.one_ne_zero, Nat.zero_ne_one, Nat.zero_add, Option.toList_some, Option.toList_none, List.nil_append, List.cons_append, List.take_succ_cons, List.take_zero, List.take_nil, List.drop_succ_cons, List.drop_zero, List.length_cons, List.length_nil, List.reverse_cons, List.reverse_nil, List.head?_cons, List.map_cons, List.map_nil, List.sum_cons, List.sum_nil, true_and, and_true, List.getElem?_cons_zero, List.getElem?_cons_succ, Prod.eta, x_get, x_put, x_iald, x_iast, x_bald, x_bast, x_lald, x_last, x_alen, xup_s, xup_a1, xup_1a, xup_uu, nr_i, nr_l, nr_o, nr_a, ft_i, ft_l, ft_o, ft_a, Nat.reduceLT, i_cl0, i_cl1, i_n1, i_m1, List.set_cons_zero, List.set_cons_succ, Nat.reduceLeDiff, Nat.le_refl, Nat.zero_le, Nat.add_zero, b_X0_anyBelow_0, b_X0_anyBelow_13, b_X0_anyBelow_59, cn_X0_anyBelow, en, r.1, r.2.1, ci, e31, sL, sS]
    refine ⟨fun q => ⟨⟨t, _, rfl, r.1⟩, t, f, n, _, r, rfl, ?_⟩, fun q => ⟨vp_in_nI (by omega) (by decide), fun h0 => ?_, fun h0 => ⟨rfl, ?_⟩⟩⟩
    · obtain rfl : i = w := by omega
      have d0 := dg_lt f n i
      have em : lN (dg f n i) &&& lN (2 ^ (p % 2 ^ 5) - 1) = lN (dg f n i % 2 ^ (p % 2 ^ 5)) := wb_mask (by omega) (by omega)
      have hmm : dg f n i % 2 ^ (p % 2 ^ 5) < 2 ^ 31 := Nat.lt_of_lt_of_le (Nat.mod_lt _ hP1) hP
      have ez : lN (dg f n i % 2 ^ (p % 2 ^ 5)) = 0 ↔ dg f n i % 2 ^ (p % 2 ^ 5) = 0 := pk_lEQ (b := 0) (by omega) (by decide)
      simp only [x_c, x_iload, x_lload, x_aload, x_istore, x_lstore, x_astore, x_iinc, x_iadd, x_isub, x_imul, x_iand, x_ior, x_ixor, x_ladd, x_lsub, x_lmul, x_land, x_lor, x_lxor, x_idiv, x_irem, x_ldiv, x_lrem, x_ineg, x_lneg, x_ishl, x_ishr, x_iushr, x_lshl, x_lshr, x_lushr, x_i2l, x_l2i, x_i2b, x_i2c, x_lcmp, x_if_eq, x_if_ne, x_if_lt, x_if_ge, x_if_gt, x_if_le, x_icmp_eq, x_icmp_ne, x_icmp_lt, x_icmp_ge, x_icmp_gt, x_icmp_le, x_dup, x_pop, x_dup_x1, x_dup2, x_iret, x_zret, x_lret, x_aret, x_vret, x_call, x_callv, x_calli, x_oinit, x_mmax, x_mmin, x_mabs, x_mmaxL, x_mminL, x_mabsL, lg_cmp_ge, lg_cmp_le, lg_cmp_gt, lg_cmp_lt, lg_cmp_eq, xlk, xs1, xs2, lv_args, Value.category, List.filter_cons, List.filter_nil, Nat.reduceAdd, Nat.reduceBEq, Nat.reduceEqDiff, Nat.reduceSub, Nat.sub_zero, beq_self_eq_true, Bool.not_true, Bool.not_false, Bool.and_true, Bool.and_false, Bool.true_and, Bool.false_and, reduceIte, reduceCtorEq, Bool.false_eq_true, Nat.one_ne_zero, Nat.zero_ne_one, Nat.zero_add, Option.toList_some, Option.toList_none, List.nil_append, List.cons_append, List.take_succ_cons, List.take_zero, List.take_nil, List.drop_succ_cons, List.drop_zero, List.length_cons, List.length_nil, List.reverse_cons, List.reverse_nil, List.head?_cons, List.map_cons, List.map_nil, List.sum_cons, List.sum_nil, true_and, and_true, List.getElem?_cons_zero, List.getElem?_cons_succ, Prod.eta, x_get, x_put, x_iald, x_iast, x_bald, x_bast, x_lald, x_last, x_alen, xup_s, xup_a1, xup_1a, xup_uu, nr_i, nr_l, nr_o, nr_a, ft_i, ft_l, ft_o, ft_a, Nat.reduceLT, i_cl0, i_cl1, i_n1, i_m1, List.set_cons_zero, List.set_cons_succ, Nat.reduceLeDiff, Nat.le_refl, Nat.zero_le, Nat.add_zero, dgt_nI f n (show i < 2 ^ 31 by omega), em, ez]
      have key : bv f n % 2 ^ p = 0 ↔ dg f n i % 2 ^ (p % 2 ^ 5) = 0 := by
        rcases Nat.lt_or_ge (p / 32) n with c | c
        · have e1 : i = p / 32 := by omega
          have ep : 2 ^ p = 2 ^ (32 * i) * 2 ^ (p % 2 ^ 5) := by rw [← Nat.pow_add]; congr 1; omega
          have h0 : bv f n % 2 ^ (32 * i) = 0 := by rw [bv_mod f (by omega)]; exact bv_zero hz
          have h1 := bv_pos f n i
          rw [ep, Nat.mod_mul, h0, Nat.zero_add]
          have h2 : dg f n i % 2 ^ (p % 2 ^ 5) = bv f n / 2 ^ (32 * i) % 2 ^ (p % 2 ^ 5) := by rw [← h1]; exact Nat.mod_mod_of_dvd _ (Nat.pow_dvd_pow 2 (by omega))
          rw [h2]
          have := Nat.two_pow_pos (32 * i)
          constructor
          · intro e
            rcases Nat.mul_eq_zero.mp e with e | e
            · omega
            · exact e
          · intro e; rw [e, Nat.mul_zero]
        · have e1 : i = n := by omega
          subst e1
          rw [bv_zero hz]
          unfold dg
          rw [if_neg (by omega)]
          simp
      rw [← key]
      exact ⟨fun c => ⟨rfl, by rw [if_pos c] at hQ; exact hQ⟩, fun c => ⟨rfl, by rw [if_neg c] at hQ; exact hQ⟩⟩
    · exact xInvL.mk (k - 1) (t, p, w, i + 1) (by omega) ⟨rfl, rfl, rfl, rfl, trivial⟩ ⟨f, n, r, hp, hw, by omega, fun j hj => by
        rcases Nat.lt_or_ge j i with c | c
        · exact hz j c
        · rw [show j = i by omega]; exact h0, hQ⟩
    · rw [if_neg] at hQ
      · exact hQ
      · intro e
        have h1 : bv f n % 2 ^ (32 * (i + 1)) = 0 := by
          have : bv f n % 2 ^ p % 2 ^ (32 * (i + 1)) = bv f n % 2 ^ (32 * (i + 1)) := Nat.mod_mod_of_dvd _ (Nat.pow_dvd_pow 2 (by omega))
          rw [← this, e, Nat.zero_mod]
        rw [bv_mod f (by omega), bv] at h1
        have := Nat.two_pow_pos (32 * i)
        have h2 : wn (f i) * 2 ^ (32 * i) = 0 := by omega
        rcases Nat.mul_eq_zero.mp h2 with h3 | h3
        · exact h0 ((wn_0 _).mpr h3)
        · omega
  · rintro av S Q ⟨t, u, p, rfl, ⟨f, n, r, rfl, z0⟩, hp, hQ⟩
    refine ⟨Nat.le_of_ble_eq_true rfl, ?_⟩
    have n2 := r.2.2
    have e5 : nI p >>> ((5 : Int32) &&& 31) = nI (p / 2 ^ 5) := pk_shrN (by omega) _ 5 (by decide)
    have e : (if nI n < nI (p / 2 ^ 5) then nI n else nI (p / 2 ^ 5)) = nI (min (p / 32) n) := by
      simp only [nI_ltI (show n < 2 ^ 31 by omega) (show p / 2 ^ 5 < 2 ^ 31 by omega)]
      split
      · rw [show min (p / 32) n = n by omega]
      · rw [show min (p / 32) n = p / 2 ^ 5 by omega]
    simp only [x_c, x_iload, x_lload, x_aload, x_istore, x_lstore, x_astore, x_iinc, x_iadd, x_isub, x_imul, x_iand, x_ior, x_ixor, x_ladd, x_lsub, x_lmul, x_land, x_lor, x_lxor, x_idiv, x_irem, x_ldiv, x_lrem, x_ineg, x_lneg, x_ishl, x_ishr, x_iushr, x_lshl, x_lshr, x_lushr, x_i2l, x_l2i, x_i2b, x_i2c, x_lcmp, x_if_eq, x_if_ne, x_if_lt, x_if_ge, x_if_gt, x_if_le, x_icmp_eq, x_icmp_ne, x_icmp_lt, x_icmp_ge, x_icmp_gt, x_icmp_le, x_dup, x_pop, x_dup_x1, x_dup2, x_iret, x_zret, x_lret, x_aret, x_vret, x_call, x_callv, x_calli, x_oinit, x_mmax, x_mmin, x_mabs, x_mmaxL, x_mminL, x_mabsL, lg_cmp_ge, lg_cmp_le, lg_cmp_gt, lg_cmp_lt, lg_cmp_eq, xlk, xs1, xs2, lv_args, Value.category, List.filter_cons, List.filter_nil, Nat.reduceAdd, Nat.reduceBEq, Nat.reduceEqDiff, Nat.reduceSub, Nat.sub_zero, beq_self_eq_true, Bool.not_true, Bool.not_false, Bool.and_true, Bool.and_false, Bool.true_and, Bool.false_and, reduceIte, reduceCtorEq, Bool.false_eq_true, Nat.one_ne_zero, Nat.zero_ne_one, Nat.zero_add, Option.toList_some, Option.toList_none, List.nil_append, List.cons_append, List.take_succ_cons, List.take_zero, List.take_nil, List.drop_succ_cons, List.drop_zero, List.length_cons, List.length_nil, List.reverse_cons, List.reverse_nil, List.head?_cons, List.map_cons, List.map_nil, List.sum_cons, List.sum_nil, true_and, and_true, List.getElem?_cons_zero, List.getElem?_cons_succ, Prod.eta, x_get, x_put, x_iald, x_iast, x_bald, x_bast, x_lald, x_last, x_alen, xup_s, xup_a1, xup_1a, xup_uu, nr_i, nr_l, nr_o, nr_a, ft_i, ft_l, ft_o, ft_a, Nat.reduceLT, i_cl0, i_cl1, i_n1, i_m1, List.set_cons_zero, List.set_cons_succ, Nat.reduceLeDiff, Nat.le_refl, Nat.zero_le, Nat.add_zero, b_X0_anyBelow_0, r.1, e5, e]
    exact xInv.mk (min (p / 32) n) (t, p, min (p / 32) n, 0) ⟨rfl, rfl, rfl, rfl, trivial⟩ ⟨f, n, r, hp, rfl, rfl, fun j hj => absurd hj (Nat.not_lt_zero j), hQ⟩
