set_option maxHeartbeats 4000000 in
theorem cM_X14_down (G : xG) (l : Launch) : xM G l yX14_down cX14_down 9 (some FieldType.long) r_X14_down C_X14_down := by
  refine xM_of (fun Q => b_X14_down_0 Q (xInv cn_X14_down (I_X14_down Q))) RX14 false (fun Q => s_X14_down_0 G l Q _ (dn_loop G l Q)) (by decide) rfl (by decide) ?_
  rintro av ⟨h, S2⟩ Q ⟨M, r, s, lo, b, p, q, e, rfl, dr, hO, hs5, hB, hP, hr, nq, m1, m2, hQ⟩
  dsimp only at *
  refine ⟨Nat.le_of_ble_eq_true rfl, ?_⟩
  have hO1 : h M = some (.inr (13, moF M s)) := hO
  obtain ⟨R, hR⟩ : ∃ R, R = nval b p q e := ⟨_, rfl⟩
  rw [← hR] at hQ
  have inv : ∀ (a c : Int) lv h', xsub (cn_X14_down (M, r, a, c)) lv → xoff h' h (M + 1) (M + 10) → moB h' M → moP h' M → a < c → (0 ≤ a ∨ c ≤ 0) → -9218868437227405311 ≤ a → c ≤ 9218868437227405312 → fval a ≤ R → (c ≤ 9218868437227405311 → R < fval c) → xInv cn_X14_down (I_X14_down Q) lv [] (h', S2) := by
    intro a c lv h' hs o B P i1 i0 i2 i3 i5 i6
    exact xInv.mk (c - a).toNat (M, r, a, c) hs ⟨s, lo, b, p, q, e, dr, (o M (by omega)).trans hO1, hs5, B, P, hr.off o (by omega), nq, m1, m2, rfl, i1, i0, i2, i3, by rw [← hR]; exact i5, by rw [← hR]; exact i6, fun h2 k o' B' P' d' => hQ h2 k (xoff_tr o' o) B' P' (by rw [hR]; exact d')⟩
  have sg : (p = 0 ∨ b = false) ∧ 0 ≤ R ∨ (p ≠ 0 ∧ b = true) ∧ R < 0 := by
    rcases Decidable.em (p = 0) with z | z
    · left; exact ⟨Or.inl z, by rw [hR, z, nval_0]; exact Rat.le_refl⟩
    · have := nval_pos e z nq
      cases b
      · left; exact ⟨Or.inr rfl, by rw [hR, nval_f]; exact Rat.le_of_lt this⟩
      · right; exact ⟨⟨z, rfl⟩, by rw [hR, nval_t]; grind⟩
  have eG : (-9218868437227405311 : Int64) = lZ (-9218868437227405311) := by decide
  have eH : (9218868437227405312 : Int64) = lZ 9218868437227405312 := by decide
  have e0 : (0 : Int64) = lZ 0 := by decide
  have B36 : ∀ (v : Int32) (a c : Int), (v = 0 ∧ a = 0 ∧ c = 9218868437227405312 ∧ 0 ≤ R) ∨ (v = 1 ∧ a = -9218868437227405311 ∧ c = 0 ∧ R < 0) → b_X14_down_36 Q (xInv cn_X14_down (I_X14_down Q)) [(3, .long (lZ a)), (2, .int v), (0, .ref M), (1, .ref r)] [.long (lZ c)] (h, S2) := by
    intro v a c hv
    simp only [x_c, x_iload, x_lload, x_aload, x_istore, x_lstore, x_astore, x_iinc, x_iadd, x_isub, x_imul, x_iand, x_ior, x_ixor, x_ladd, x_lsub, x_lmul, x_land, x_lor, x_lxor, x_idiv, x_irem, x_ldiv, x_lrem, x_ineg, x_lneg, x_ishl, x_ishr, x_iushr, x_lshl, x_lshr, x_lushr, x_i2l, x_l2i, x_i2b, x_i2c, x_lcmp, x_if_eq, x_if_ne, x_if_lt, x_if_ge, x_if_gt, x_if_le, x_icmp_eq, x_icmp_ne, x_icmp_lt, x_icmp_ge, x_icmp_gt, x_icmp_le, x_dup, x_pop, x_dup_x1, x_dup2, x_iret, x_zret, x_lret, x_aret, x_vret, x_call, x_callv, x_calli, x_oinit, x_mmax, x_mmin, x_mabs, x_mmaxL, x_mminL, x_mabsL, lg_cmp_ge, lg_cmp_le, lg_cmp_gt, lg_cmp_lt, lg_cmp_eq, xlk, xs1, xs2, lv_args, Value.category, List.filter_cons, List.filter_nil, Nat.reduceAdd, Nat.reduceBEq, Nat.reduceEqDiff, Nat.reduceSub, Nat.sub_zero, beq_self_eq_true, Bool.not_true, Bool.not_false, Bool.and_true, Bool.and_false, Bool.true_and, Bool.false_and, reduceIte, reduceCtorEq, Bool.false_eq_true, Nat.one_ne_zero, Nat.zero_ne_one, Nat.zero_add, Option.toList_some, Option.toList_none, List.nil_append, List.cons_append, List.take_succ_cons, List.take_zero, List.take_nil, List.drop_succ_cons, List.drop_zero, List.length_cons, List.length_nil, List.reverse_cons, List.reverse_nil, List.head?_cons, List.map_cons, List.map_nil, List.sum_cons, List.sum_nil, true_and, and_true, List.getElem?_cons_zero, List.getElem?_cons_succ, Prod.eta, x_get, x_put, x_iald, x_iast, x_bald, x_bast, x_lald, x_last, x_alen, xup_s, xup_a1, xup_1a, xup_uu, nr_i, nr_l, nr_o, nr_a, ft_i, ft_l, ft_o, ft_a, Nat.reduceLT, i_cl0, i_cl1, i_n1, i_m1, List.set_cons_zero, List.set_cons_succ, Nat.reduceLeDiff, Nat.le_refl, Nat.zero_le, Nat.add_zero, b_X14_down_36, hO1, moF]
    refine ⟨-9218868437227405311, by rw [eG], by omega, by omega, ?_⟩
    simp only [x_c, x_iload, x_lload, x_aload, x_istore, x_lstore, x_astore, x_iinc, x_iadd, x_isub, x_imul, x_iand, x_ior, x_ixor, x_ladd, x_lsub, x_lmul, x_land, x_lor, x_lxor, x_idiv, x_irem, x_ldiv, x_lrem, x_ineg, x_lneg, x_ishl, x_ishr, x_iushr, x_lshl, x_lshr, x_lushr, x_i2l, x_l2i, x_i2b, x_i2c, x_lcmp, x_if_eq, x_if_ne, x_if_lt, x_if_ge, x_if_gt, x_if_le, x_icmp_eq, x_icmp_ne, x_icmp_lt, x_icmp_ge, x_icmp_gt, x_icmp_le, x_dup, x_pop, x_dup_x1, x_dup2, x_iret, x_zret, x_lret, x_aret, x_vret, x_call, x_callv, x_calli, x_oinit, x_mmax, x_mmin, x_mabs, x_mmaxL, x_mminL, x_mabsL, lg_cmp_ge, lg_cmp_le, lg_cmp_gt, lg_cmp_lt, lg_cmp_eq, xlk, xs1, xs2, lv_args, Value.category, List.filter_cons, List.filter_nil, Nat.reduceAdd, Nat.reduceBEq, Nat.reduceEqDiff, Nat.reduceSub, Nat.sub_zero, beq_self_eq_true, Bool.not_true, Bool.not_false, Bool.and_true, Bool.and_false, Bool.true_and, Bool.false_and, reduceIte, reduceCtorEq, Bool.false_eq_true, Nat.one_ne_zero, Nat.zero_ne_one, Nat.zero_add, Option.toList_some, Option.toList_none, List.nil_append, List.cons_append, List.take_succ_cons, List.take_zero, List.take_nil, List.drop_succ_cons, List.drop_zero, List.length_cons, List.length_nil, List.reverse_cons, List.reverse_nil, List.head?_cons, List.map_cons, List.map_nil, List.sum_cons, List.sum_nil, true_and, and_true, List.getElem?_cons_zero, List.getElem?_cons_succ, Prod.eta, x_get, x_put, x_iald, x_iast, x_bald, x_bast, x_lald, x_last, x_alen, xup_s, xup_a1, xup_1a, xup_uu, nr_i, nr_l, nr_o, nr_a, ft_i, ft_l, ft_o, ft_a, Nat.reduceLT, i_cl0, i_cl1, i_n1, i_m1, List.set_cons_zero, List.set_cons_succ, Nat.reduceLeDiff, Nat.le_refl, Nat.zero_le, Nat.add_zero]
    obtain ⟨c0, p0, q0, f0, n0⟩ := hP
    refine ⟨⟨_, _, rfl, n0.1⟩, M + 5, foB (-9218868437227405311), c0, p0, q0, f0, rfl, foB_lt (by omega) (by omega), n0, fun h2 o2 n2 => ?_⟩
    have o3 : xoff h2 h (M + 1) (M + 10) := xoff_wd o2 (by omega) (by omega)
    have B2 : moB h2 M := ⟨⟨_, hB.1.choose_spec.off o2 (by omega)⟩, ⟨_, hB.2.choose_spec.off o2 (by omega)⟩⟩
    have hO2 := (o3 M (by omega)).trans hO1
    simp only [x_c, x_iload, x_lload, x_aload, x_istore, x_lstore, x_astore, x_iinc, x_iadd, x_isub, x_imul, x_iand, x_ior, x_ixor, x_ladd, x_lsub, x_lmul, x_land, x_lor, x_lxor, x_idiv, x_irem, x_ldiv, x_lrem, x_ineg, x_lneg, x_ishl, x_ishr, x_iushr, x_lshl, x_lshr, x_lushr, x_i2l, x_l2i, x_i2b, x_i2c, x_lcmp, x_if_eq, x_if_ne, x_if_lt, x_if_ge, x_if_gt, x_if_le, x_icmp_eq, x_icmp_ne, x_icmp_lt, x_icmp_ge, x_icmp_gt, x_icmp_le, x_dup, x_pop, x_dup_x1, x_dup2, x_iret, x_zret, x_lret, x_aret, x_vret, x_call, x_callv, x_calli, x_oinit, x_mmax, x_mmin, x_mabs, x_mmaxL, x_mminL, x_mabsL, lg_cmp_ge, lg_cmp_le, lg_cmp_gt, lg_cmp_lt, lg_cmp_eq, xlk, xs1, xs2, lv_args, Value.category, List.filter_cons, List.filter_nil, Nat.reduceAdd, Nat.reduceBEq, Nat.reduceEqDiff, Nat.reduceSub, Nat.sub_zero, beq_self_eq_true, Bool.not_true, Bool.not_false, Bool.and_true, Bool.and_false, Bool.true_and, Bool.false_and, reduceIte, reduceCtorEq, Bool.false_eq_true, Nat.one_ne_zero, Nat.zero_ne_one, Nat.zero_add, Option.toList_some, Option.toList_none, List.nil_append, List.cons_append, List.take_succ_cons, List.take_zero, List.take_nil, List.drop_succ_cons, List.drop_zero, List.length_cons, List.length_nil, List.reverse_cons, List.reverse_nil, List.head?_cons, List.map_cons, List.map_nil, List.sum_cons, List.sum_nil, true_and, and_true, List.getElem?_cons_zero, List.getElem?_cons_succ, Prod.eta, x_get, x_put, x_iald, x_iast, x_bald, x_bast, x_lald, x_last, x_alen, xup_s, xup_a1, xup_1a, xup_uu, nr_i, nr_l, nr_o, nr_a, ft_i, ft_l, ft_o, ft_a, Nat.reduceLT, i_cl0, i_cl1, i_n1, i_m1, List.set_cons_zero, List.set_cons_succ, Nat.reduceLeDiff, Nat.le_refl, Nat.zero_le, Nat.add_zero, hO2, moF]
    rcases hv with ⟨rfl, rfl, rfl, hpos⟩ | ⟨rfl, rfl, rfl, hneg⟩
    · exact ⟨fun _ => inv 0 9218868437227405312 _ h2 ⟨rfl, rfl, rfl, rfl, trivial⟩ o3 B2 ⟨_, _, _, _, n2⟩ (by omega) (by omega) (by omega) (by omega) (by rw [fval_0]; exact hpos) (by omega), fun z => absurd rfl z⟩
    · refine ⟨fun z => absurd z (by decide), fun _ => ⟨⟨_, _, rfl, hO2⟩, ?_⟩⟩
      have fl := fP_lt (foB (-9218868437227405311))
      have ms1 : fP (foB (-9218868437227405311)) * q < 65536 ^ 639 := Nat.lt_of_le_of_lt (Nat.mul_le_mul_right q (Nat.le_of_lt fl)) m2
      refine ⟨M, M + 5, r, s, _, b, _, 1, p, q, _, e, rfl, by omega, by omega, hO2, B2, n2, hr.off o3 (by omega), by decide, nq, ms1, by rw [Nat.mul_one]; exact m1, fun h3 oC B3 => ?_⟩
      rw [nval_fo (by omega) (by omega), ← hR]
      have o4 : xoff h3 h (M + 1) (M + 10) := xoff_tr (xoff_wd oC (by omega) (by omega)) o3
      have P4 : moP h3 M := ⟨_, _, _, _, n2.off oC (by omega)⟩
      simp only [x_c, x_iload, x_lload, x_aload, x_istore, x_lstore, x_astore, x_iinc, x_iadd, x_isub, x_imul, x_iand, x_ior, x_ixor, x_ladd, x_lsub, x_lmul, x_land, x_lor, x_lxor, x_idiv, x_irem, x_ldiv, x_lrem, x_ineg, x_lneg, x_ishl, x_ishr, x_iushr, x_lshl, x_lshr, x_lushr, x_i2l, x_l2i, x_i2b, x_i2c, x_lcmp, x_if_eq, x_if_ne, x_if_lt, x_if_ge, x_if_gt, x_if_le, x_icmp_eq, x_icmp_ne, x_icmp_lt, x_icmp_ge, x_icmp_gt, x_icmp_le, x_dup, x_pop, x_dup_x1, x_dup2, x_iret, x_zret, x_lret, x_aret, x_vret, x_call, x_callv, x_calli, x_oinit, x_mmax, x_mmin, x_mabs, x_mmaxL, x_mminL, x_mabsL, lg_cmp_ge, lg_cmp_le, lg_cmp_gt, lg_cmp_lt, lg_cmp_eq, xlk, xs1, xs2, lv_args, Value.category, List.filter_cons, List.filter_nil, Nat.reduceAdd, Nat.reduceBEq, Nat.reduceEqDiff, Nat.reduceSub, Nat.sub_zero, beq_self_eq_true, Bool.not_true, Bool.not_false, Bool.and_true, Bool.and_false, Bool.true_and, Bool.false_and, reduceIte, reduceCtorEq, Bool.false_eq_true, Nat.one_ne_zero, Nat.zero_ne_one, Nat.zero_add, Option.toList_some, Option.toList_none, List.nil_append, List.cons_append, List.take_succ_cons, List.take_zero, List.take_nil, List.drop_succ_cons, List.drop_zero, List.length_cons, List.length_nil, List.reverse_cons, List.reverse_nil, List.head?_cons, List.map_cons, List.map_nil, List.sum_cons, List.sum_nil, true_and, and_true, List.getElem?_cons_zero, List.getElem?_cons_succ, Prod.eta, x_get, x_put, x_iald, x_iast, x_bald, x_bast, x_lald, x_last, x_alen, xup_s, xup_a1, xup_1a, xup_uu, nr_i, nr_l, nr_o, nr_a, ft_i, ft_l, ft_o, ft_a, Nat.reduceLT, i_cl0, i_cl1, i_n1, i_m1, List.set_cons_zero, List.set_cons_succ, Nat.reduceLeDiff, Nat.le_refl, Nat.zero_le, Nat.add_zero]
      rw [cmpR_le]
      refine ⟨fun w => inv _ _ _ h3 ⟨rfl, rfl, rfl, rfl, trivial⟩ o4 B3 P4 (by omega) (by omega) (by omega) (by omega) w (fun _ => by rw [fval_0]; exact hneg), fun w => ?_⟩
      have := hQ h3 (-9218868437227405312) o4 B3 P4 (Or.inl ⟨rfl, Rat.not_le.mp w⟩)
      rw [show lN (foB (-9218868437227405312)) = (-4503599627370496 : Int64) by decide] at this
      exact this
  simp only [x_c, x_iload, x_lload, x_aload, x_istore, x_lstore, x_astore, x_iinc, x_iadd, x_isub, x_imul, x_iand, x_ior, x_ixor, x_ladd, x_lsub, x_lmul, x_land, x_lor, x_lxor, x_idiv, x_irem, x_ldiv, x_lrem, x_ineg, x_lneg, x_ishl, x_ishr, x_iushr, x_lshl, x_lshr, x_lushr, x_i2l, x_l2i, x_i2b, x_i2c, x_lcmp, x_if_eq, x_if_ne, x_if_lt, x_if_ge, x_if_gt, x_if_le, x_icmp_eq, x_icmp_ne, x_icmp_lt, x_icmp_ge, x_icmp_gt, x_icmp_le, x_dup, x_pop, x_dup_x1, x_dup2, x_iret, x_zret, x_lret, x_aret, x_vret, x_call, x_callv, x_calli, x_oinit, x_mmax, x_mmin, x_mabs, x_mmaxL, x_mminL, x_mabsL, lg_cmp_ge, lg_cmp_le, lg_cmp_gt, lg_cmp_lt, lg_cmp_eq, xlk, xs1, xs2, lv_args, Value.category, List.filter_cons, List.filter_nil, Nat.reduceAdd, Nat.reduceBEq, Nat.reduceEqDiff, Nat.reduceSub, Nat.sub_zero, beq_self_eq_true, Bool.not_true, Bool.not_false, Bool.and_true, Bool.and_false, Bool.true_and, Bool.false_and, reduceIte, reduceCtorEq, Bool.false_eq_true, Nat.one_ne_zero, Nat.zero_ne_one, Nat.zero_add, Option.toList_some, Option.toList_none, List.nil_append, List.cons_append, List.take_succ_cons, List.take_zero, List.take_nil, List.drop_succ_cons, List.drop_zero, List.length_cons, List.length_nil, List.reverse_cons, List.reverse_nil, List.head?_cons, List.map_cons, List.map_nil, List.sum_cons, List.sum_nil, true_and, and_true, List.getElem?_cons_zero, List.getElem?_cons_succ, Prod.eta, x_get, x_put, x_iald, x_iast, x_bald, x_bast, x_lald, x_last, x_alen, xup_s, xup_a1, xup_1a, xup_uu, nr_i, nr_l, nr_o, nr_a, ft_i, ft_l, ft_o, ft_a, Nat.reduceLT, i_cl0, i_cl1, i_n1, i_m1, List.set_cons_zero, List.set_cons_succ, Nat.reduceLeDiff, Nat.le_refl, Nat.zero_le, Nat.add_zero, b_X14_down_0]
  refine ⟨⟨_, _, rfl, hr.1⟩, r, b, p, q, e, rfl, hr, ?_⟩
  simp only [x_c, x_iload, x_lload, x_aload, x_istore, x_lstore, x_astore, x_iinc, x_iadd, x_isub, x_imul, x_iand, x_ior, x_ixor, x_ladd, x_lsub, x_lmul, x_land, x_lor, x_lxor, x_idiv, x_irem, x_ldiv, x_lrem, x_ineg, x_lneg, x_ishl, x_ishr, x_iushr, x_lshl, x_lshr, x_lushr, x_i2l, x_l2i, x_i2b, x_i2c, x_lcmp, x_if_eq, x_if_ne, x_if_lt, x_if_ge, x_if_gt, x_if_le, x_icmp_eq, x_icmp_ne, x_icmp_lt, x_icmp_ge, x_icmp_gt, x_icmp_le, x_dup, x_pop, x_dup_x1, x_dup2, x_iret, x_zret, x_lret, x_aret, x_vret, x_call, x_callv, x_calli, x_oinit, x_mmax, x_mmin, x_mabs, x_mmaxL, x_mminL, x_mabsL, lg_cmp_ge, lg_cmp_le, lg_cmp_gt, lg_cmp_lt, lg_cmp_eq, xlk, xs1, xs2, lv_args, Value.category, List.filter_cons, List.filter_nil, Nat.reduceAdd, Nat.reduceBEq, Nat.reduceEqDiff, Nat.reduceSub, Nat.sub_zero, beq_self_eq_true, Bool.not_true, Bool.not_false, Bool.and_true, Bool.and_false, Bool.true_and, Bool.false_and, reduceIte, reduceCtorEq, Bool.false_eq_true, Nat.one_ne_zero, Nat.zero_ne_one, Nat.zero_add, Option.toList_some, Option.toList_none, List.nil_append, List.cons_append, List.take_succ_cons, List.take_zero, List.take_nil, List.drop_succ_cons, List.drop_zero, List.length_cons, List.length_nil, List.reverse_cons, List.reverse_nil, List.head?_cons, List.map_cons, List.map_nil, List.sum_cons, List.sum_nil, true_and, and_true, List.getElem?_cons_zero, List.getElem?_cons_succ, Prod.eta, x_get, x_put, x_iald, x_iast, x_bald, x_bast, x_lald, x_last, x_alen, xup_s, xup_a1, xup_1a, xup_uu, nr_i, nr_l, nr_o, nr_a, ft_i, ft_l, ft_o, ft_a, Nat.reduceLT, i_cl0, i_cl1, i_n1, i_m1, List.set_cons_zero, List.set_cons_succ, Nat.reduceLeDiff, Nat.le_refl, Nat.zero_le, Nat.add_zero, b_X14_down_12, b_X14_down_24]
  rcases sg with ⟨z, hp⟩ | ⟨⟨z1, rfl⟩, hn⟩
  · have ez : (0 : Int32) ≤ (if p = 0 then 0 else if b = true then -1 else 1) := by
      rcases z with z | z
      · rw [if_pos z]; decide
      · subst z
        split <;> decide
    refine ⟨fun _ => ⟨fun _ => ⟨fun _ => ?_, fun w => absurd trivial w⟩, fun w => absurd trivial w⟩, fun w => absurd ez w⟩
    rw [e0, eH]
    exact B36 0 0 9218868437227405312 (Or.inl ⟨rfl, rfl, rfl, hp⟩)
  · rw [if_neg z1]
    refine ⟨fun w => absurd w (by decide), fun _ => ⟨fun w => absurd w (by decide), fun _ => ⟨fun w => absurd w (by decide), fun _ => ?_⟩⟩⟩
    rw [e0, eG]
    exact B36 1 _ 0 (Or.inr ⟨rfl, rfl, rfl, hn⟩)
theorem dX14_minus_0 : decode cX14_minus 0 = .ok (.lload_n 0, 1) := by decide +kernel
theorem dX14_minus_1 : decode cX14_minus 1 = .ok (.lconst 0, 1) := by decide +kernel
theorem dX14_minus_2 : decode cX14_minus 2 = .ok (.lcmp, 1) := by decide +kernel
theorem dX14_minus_3 : decode cX14_minus 3 = .ok (.ifCond .ne 7, 3) := by decide +kernel
theorem dX14_minus_6 : decode cX14_minus 6 = .ok (.lconst 0, 1) := by decide +kernel
theorem dX14_minus_7 : decode cX14_minus 7 = .ok (.goto 8, 3) := by decide +kernel
theorem dX14_minus_10 : decode cX14_minus 10 = .ok (.lload_n 0, 1) := by decide +kernel
theorem dX14_minus_11 : decode cX14_minus 11 = .ok (.ldc2_w 57, 3) := by decide +kernel
theorem dX14_minus_14 : decode cX14_minus 14 = .ok (.lxor, 1) := by decide +kernel
theorem dX14_minus_15 : decode cX14_minus 15 = .ok (.lreturn, 1) := by decide +kernel
abbrev r_X14_minus : Room := { frames := 0, cells := 0, slots := 0, locals := 0 }
abbrev m_X14_minus : xMd := (cX14_minus, RX14, 2, (some FieldType.long), false, r_X14_minus)
def b_X14_minus_15 (Q : xQ) : xK := x_lret Q
def b_X14_minus_0 (Q : xQ) : xK := x_lload 0 <| x_c (.long 0) <| x_lcmp <| x_if_ne (x_lload 0 <| x_c (.long (-9223372036854775808)) <| x_lxor <| (b_X14_minus_15 Q)) <| x_c (.long 0) <| (b_X14_minus_15 Q)
theorem s_X14_minus_15 (G : xG) (l : Launch) (Q : xQ) : xW G l m_X14_minus xX0 (xPm G Q r_X14_minus) 15 (b_X14_minus_15 Q) := xo_lret (pc := 15) rfl dX14_minus_15
theorem s_X14_minus_0 (G : xG) (l : Launch) (Q : xQ) : xW G l m_X14_minus xX0 (xPm G Q r_X14_minus) 0 (b_X14_minus_0 Q) := xo_lload_n (pc := 0) (i := 0) dX14_minus_0 rfl <| xo_lconst (pc := 1) dX14_minus_1 (by decide) <| xo_lcmp (pc := 2) dX14_minus_2 <| xo_if_ne (pc := 3) (tgt := 10) dX14_minus_3 (by decide) (xo_lload_n (pc := 10) (i := 0) dX14_minus_10 rfl <| xo_ldc2_w (pc := 11) dX14_minus_11 kw1355 <| xo_lxor (pc := 14) dX14_minus_14 <| (s_X14_minus_15 G l Q)) <| xo_lconst (pc := 6) dX14_minus_6 (by decide) <| xo_goto (pc := 7) (tgt := 15) dX14_minus_7 (by decide) <| (s_X14_minus_15 G l Q)

def C_X14_minus : xC := fun av S Q => ∃ k : Int, av = [.long (lN (foB k))] ∧ -9223372036854775808 < k ∧ k < 9223372036854775808 ∧ Q (some (.long (lN (foB (-k))))) S
theorem cM_X14_minus (G : xG) (l : Launch) : xM G l yX14_minus cX14_minus 2 (some FieldType.long) r_X14_minus C_X14_minus := by
  refine xM_of (fun Q => b_X14_minus_0 Q) RX14 false (s_X14_minus_0 G l) (by decide) rfl (by decide) ?_
  rintro av S Q ⟨k, rfl, h1, h2, hQ⟩
  refine ⟨Nat.le_of_ble_eq_true rfl, ?_⟩
  have hlt := foB_lt h1 h2
  have e0 : lN (foB k) = 0 ↔ k = 0 := by
    constructor
    · intro e9
      have := congrArg uN e9
      rw [uN_lN hlt, show uN 0 = 0 by decide] at this
      unfold foB at this
      split at this <;> omega
    · intro e9; subst e9; decide
  have em : (-9223372036854775808 : Int64) = lN (2 ^ 63) := by decide
  simp only [x_c, x_iload, x_lload, x_aload, x_istore, x_lstore, x_astore, x_iinc, x_iadd, x_isub, x_imul, x_iand, x_ior, x_ixor, x_ladd, x_lsub, x_lmul, x_land, x_lor, x_lxor, x_idiv, x_irem, x_ldiv, x_lrem, x_ineg, x_lneg, x_ishl, x_ishr, x_iushr, x_lshl, x_lshr, x_lushr, x_i2l, x_l2i, x_i2b, x_i2c, x_lcmp, x_if_eq, x_if_ne, x_if_lt, x_if_ge, x_if_gt, x_if_le, x_icmp_eq, x_icmp_ne, x_icmp_lt, x_icmp_ge, x_icmp_gt, x_icmp_le, x_dup, x_pop, x_dup_x1, x_dup2, x_iret, x_zret, x_lret, x_aret, x_vret, x_call, x_callv, x_calli, x_oinit, x_mmax, x_mmin, x_mabs, x_mmaxL, x_mminL, x_mabsL, lg_cmp_ge, lg_cmp_le, lg_cmp_gt, lg_cmp_lt, lg_cmp_eq, xlk, xs1, xs2, lv_args, Value.category, List.filter_cons, List.filter_nil, Nat.reduceAdd, Nat.reduceBEq, Nat.reduceEqDiff, Nat.reduceSub, Nat.sub_zero, beq_self_eq_true, Bool.not_true, Bool.not_false, Bool.and_true, Bool.and_false, Bool.true_and, Bool.false_and, reduceIte, reduceCtorEq, Bool.false_eq_true, Nat.one_ne_zero, Nat.zero_ne_one, Nat.zero_add, Option.toList_some, Option.toList_none, List.nil_append, List.cons_append, List.take_succ_cons, List.take_zero, List.take_nil, List.drop_succ_cons, List.drop_zero, List.length_cons, List.length_nil, List.reverse_cons, List.reverse_nil, List.head?_cons, List.map_cons, List.map_nil, List.sum_cons, List.sum_nil, true_and, and_true, List.getElem?_cons_zero, List.getElem?_cons_succ, Prod.eta, x_get, x_put, x_iald, x_iast, x_bald, x_bast, x_lald, x_last, x_alen, xup_s, xup_a1, xup_1a, xup_uu, nr_i, nr_l, nr_o, nr_a, ft_i, ft_l, ft_o, ft_a, Nat.reduceLT, i_cl0, i_cl1, i_n1, i_m1, List.set_cons_zero, List.set_cons_succ, Nat.reduceLeDiff, Nat.le_refl, Nat.zero_le, Nat.add_zero, b_X14_minus_0, b_X14_minus_15, e0, em, lN_xor]
  refine ⟨fun z => ?_, fun z => ?_⟩
  · have ex : foB k ^^^ 2 ^ 63 = foB (-k) := by
      unfold foB
      rcases Int.lt_or_le k 0 with c | c
      · rw [if_pos c, if_neg (by omega), ← xor63 (show (-k).toNat < 2 ^ 63 by omega), Nat.xor_assoc, Nat.xor_self, Nat.xor_zero]
      · rw [if_neg (by omega), if_pos (by omega), xor63 (by omega), Int.neg_neg]
    rw [ex]
    exact hQ
  · subst z
    exact hQ
theorem dX14_up_0 : decode cX14_up 0 = .ok (.aload_n 0, 1) := by decide +kernel
theorem dX14_up_1 : decode cX14_up 1 = .ok (.getfield 88, 3) := by decide +kernel
theorem dX14_up_4 : decode cX14_up 4 = .ok (.aload_n 1, 1) := by decide +kernel
theorem dX14_up_5 : decode cX14_up 5 = .ok (.invokevirtual 91, 3) := by decide +kernel
theorem dX14_up_8 : decode cX14_up 8 = .ok (.aload_n 0, 1) := by decide +kernel
theorem dX14_up_9 : decode cX14_up 9 = .ok (.getfield 88, 3) := by decide +kernel
theorem dX14_up_12 : decode cX14_up 12 = .ok (.aload_n 1, 1) := by decide +kernel
theorem dX14_up_13 : decode cX14_up 13 = .ok (.getfield 94, 3) := by decide +kernel
theorem dX14_up_16 : decode cX14_up 16 = .ok (.ifCond .ne 7, 3) := by decide +kernel
theorem dX14_up_19 : decode cX14_up 19 = .ok (.iconst 1, 1) := by decide +kernel
theorem dX14_up_20 : decode cX14_up 20 = .ok (.goto 4, 3) := by decide +kernel
theorem dX14_up_23 : decode cX14_up 23 = .ok (.iconst 0, 1) := by decide +kernel
theorem dX14_up_24 : decode cX14_up 24 = .ok (.putfield 94, 3) := by decide +kernel
theorem dX14_up_27 : decode cX14_up 27 = .ok (.aload_n 0, 1) := by decide +kernel
theorem dX14_up_28 : decode cX14_up 28 = .ok (.aload_n 0, 1) := by decide +kernel
theorem dX14_up_29 : decode cX14_up 29 = .ok (.getfield 88, 3) := by decide +kernel
theorem dX14_up_32 : decode cX14_up 32 = .ok (.invokevirtual 97, 3) := by decide +kernel
theorem dX14_up_35 : decode cX14_up 35 = .ok (.invokestatic 101, 3) := by decide +kernel
theorem dX14_up_38 : decode cX14_up 38 = .ok (.lreturn, 1) := by decide +kernel
abbrev r_X14_up : Room := { frames := 5, cells := 0, slots := 0, locals := 127 }
abbrev m_X14_up : xMd := (cX14_up, RX14, 2, (some FieldType.long), false, r_X14_up)
def b_X14_up_24 (Q : xQ) : xK := x_put 12 0 .boolean <| x_aload 0 <| x_aload 0 <| x_get 13 4 <| x_callv 13 C_X14_down 2 0 0 <| x_call C_X14_minus 1 0 0 <| x_lret Q
def b_X14_up_0 (Q : xQ) : xK := x_aload 0 <| x_get 13 4 <| x_aload 1 <| x_callv 12 C_X13_copy 2 0 0 <| x_aload 0 <| x_get 13 4 <| x_aload 1 <| x_get 12 0 <| x_if_ne (x_c (.int 0) <| (b_X14_up_24 Q)) <| x_c (.int 1) <| (b_X14_up_24 Q)
theorem s_X14_up_24 (G : xG) (l : Launch) (Q : xQ) : xW G l m_X14_up xX0 (xPm G Q r_X14_up) 24 (b_X14_up_24 Q) := xo_putN (pc := 24) (ci := 12) (i := 0) rfl ok12 (by decide) rfl rfl dX14_up_24 kw1185 <| xo_aload_n (pc := 27) (i := 0) dX14_up_27 rfl <| xo_aload_n (pc := 28) (i := 0) dX14_up_28 rfl <| xo_get (pc := 29) (ci := 13) (i := 4) rfl ok13 (by decide) dX14_up_29 kw1205 <| xo_callV (pc := 32) (np := 1) (ci := 13) rfl (cM_X14_down G l) dX14_up_32 kw1414 kw1411 kw1413 ks62 kw13 (by decide +kernel) (by decide) <| xo_callS (pc := 35) (np := 1) (cM_X14_minus G l) dX14_up_35 kw1354 kw1352 kw1353 kw13 (by decide +kernel) (by decide) <| xo_lret (pc := 38) rfl dX14_up_38
theorem s_X14_up_0 (G : xG) (l : Launch) (Q : xQ) : xW G l m_X14_up xX0 (xPm G Q r_X14_up) 0 (b_X14_up_0 Q) := xo_aload_n (pc := 0) (i := 0) dX14_up_0 rfl <| xo_get (pc := 1) (ci := 13) (i := 4) rfl ok13 (by decide) dX14_up_1 kw1205 <| xo_aload_n (pc := 4) (i := 1) dX14_up_4 rfl <| xo_callV (pc := 5) (np := 1) (ci := 12) rfl (cM_X13_copy G l) dX14_up_5 kw1469 kw1466 kw1467 kw1468 kw15 (by decide +kernel) (by decide) <| xo_aload_n (pc := 8) (i := 0) dX14_up_8 rfl <| xo_get (pc := 9) (ci := 13) (i := 4) rfl ok13 (by decide) dX14_up_9 kw1205 <| xo_aload_n (pc := 12) (i := 1) dX14_up_12 rfl <| xo_getN (pc := 13) (ci := 12) (i := 0) rfl ok12 (by decide) dX14_up_13 kw1185 <| xo_if_ne (pc := 16) (tgt := 23) dX14_up_16 (by decide) (xo_iconst (pc := 23) dX14_up_23 (by decide) <| (s_X14_up_24 G l Q)) <| xo_iconst (pc := 19) dX14_up_19 (by decide) <| xo_goto (pc := 20) (tgt := 24) dX14_up_20 (by decide) <| (s_X14_up_24 G l Q)

/-- k is the order of the number x rounded up -/
def upS (x : Rat) (k : Int) : Prop := dnS (-x) (-k)
def C_X14_up : xC := fun av S Q => ∃ (M r : Nat) (s : Nat → Value) (lo b : Bool) (p q : Nat) (e : Int), av = [.ref M, .ref r] ∧ (r + 5 ≤ M ∨ M + 20 ≤ r) ∧ moO S.1 M s ∧ s 5 = .int (bI lo) ∧ moB S.1 M ∧ moP S.1 M ∧ (∃ c0 p0 q0 e0, nuR S.1 (M + 15) c0 p0 q0 e0) ∧ nuR S.1 r b p q e ∧ q ≠ 0 ∧ p < 65536 ^ 639 ∧ 2 ^ 53 * q < 65536 ^ 639 ∧ ∀ h' k, xoff2 h' S.1 (M + 1) (M + 10) (M + 15) (M + 20) → moB h' M → moP h' M → (∃ c0 p0 q0 e0, nuR h' (M + 15) c0 p0 q0 e0) → upS (nval b p q e) k → Q (some (.long (lN (foB k)))) (h', S.2)
theorem nval_not (b : Bool) (p q : Nat) (e : Int) : nval (!b) p q e = -nval b p q e := by
  cases b
  · show nval true p q e = _
    rw [nval_t, nval_f]
  · show nval false p q e = _
    rw [nval_t, nval_f]
    grind
theorem cM_X14_up (G : xG) (l : Launch) : xM G l yX14_up cX14_up 2 (some FieldType.long) r_X14_up C_X14_up := by
  refine xM_of (fun Q => b_X14_up_0 Q) RX14 false (s_X14_up_0 G l) (by decide) rfl (by decide) ?_
  rintro av ⟨h, S2⟩ Q ⟨M, r, s, lo, b, p, q, e, rfl, dr, hO, hs5, hB, hP, ⟨c0, p0, q0, e0, hN⟩, hr, nq, m1, m2, hQ⟩
  dsimp only at *
  refine ⟨Nat.le_of_ble_eq_true rfl, ?_⟩
  have hO1 : h M = some (.inr (13, moF M s)) := hO
  simp only [x_c, x_iload, x_lload, x_aload, x_istore, x_lstore, x_astore, x_iinc, x_iadd, x_isub, x_imul, x_iand, x_ior, x_ixor, x_ladd, x_lsub, x_lmul, x_land, x_lor, x_lxor, x_idiv, x_irem, x_ldiv, x_lrem, x_ineg, x_lneg, x_ishl, x_ishr, x_iushr, x_lshl, x_lshr, x_lushr, x_i2l, x_l2i, x_i2b, x_i2c, x_lcmp, x_if_eq, x_if_ne, x_if_lt, x_if_ge, x_if_gt, x_if_le, x_icmp_eq, x_icmp_ne, x_icmp_lt, x_icmp_ge, x_icmp_gt, x_icmp_le, x_dup, x_pop, x_dup_x1, x_dup2, x_iret, x_zret, x_lret, x_aret, x_vret, x_call, x_callv, x_calli, x_oinit, x_mmax, x_mmin, x_mabs, x_mmaxL, x_mminL, x_mabsL, lg_cmp_ge, lg_cmp_le, lg_cmp_gt, lg_cmp_lt, lg_cmp_eq, xlk, xs1, xs2, lv_args, Value.category, List.filter_cons, List.filter_nil, Nat.reduceAdd, Nat.reduceBEq, Nat.reduceEqDiff, Nat.reduceSub, Nat.sub_zero, beq_self_eq_true, Bool.not_true, Bool.not_false, Bool.and_true, Bool.and_false, Bool.true_and, Bool.false_and, reduceIte, reduceCtorEq, Bool.false_eq_true, Nat.one_ne_zero, Nat.zero_ne_one, Nat.zero_add, Option.toList_some, Option.toList_none, List.nil_append, List.cons_append, List.take_succ_cons, List.take_zero, List.take_nil, List.drop_succ_cons, List.drop_zero, List.length_cons, List.length_nil, List.reverse_cons, List.reverse_nil, List.head?_cons, List.map_cons, List.map_nil, List.sum_cons, List.sum_nil, true_and, and_true, List.getElem?_cons_zero, List.getElem?_cons_succ, Prod.eta, x_get, x_put, x_iald, x_iast, x_bald, x_bast, x_lald, x_last, x_alen, xup_s, xup_a1, xup_1a, xup_uu, nr_i, nr_l, nr_o, nr_a, ft_i, ft_l, ft_o, ft_a, Nat.reduceLT, i_cl0, i_cl1, i_n1, i_m1, List.set_cons_zero, List.set_cons_succ, Nat.reduceLeDiff, Nat.le_refl, Nat.zero_le, Nat.add_zero, b_X14_up_0, hO1, moF]
  refine ⟨⟨_, _, rfl, hN.1⟩, M + 15, r, b, c0, p, q, p0, q0, e, e0, rfl, by omega, hN, hr, fun h2 o2 n2 => ?_⟩
  have hO2 := (o2 M (by omega)).trans hO1
  have r2 := hr.off o2 (by omega)
  have go : ∀ v : Bool, v = !b → b_X14_up_24 Q [(0, .ref M), (1, .ref r)] [.int (bI v), .ref (M + 15)] (h2, S2) := by
    intro v hv
    have nO : xup h2 (M + 15) (.inr (12, [.int (bI v), .ref (M + 15 + 1), .ref (M + 15 + 3), .int (iZ e)])) M = h2 M := xup_n (by omega)
    simp only [x_c, x_iload, x_lload, x_aload, x_istore, x_lstore, x_astore, x_iinc, x_iadd, x_isub, x_imul, x_iand, x_ior, x_ixor, x_ladd, x_lsub, x_lmul, x_land, x_lor, x_lxor, x_idiv, x_irem, x_ldiv, x_lrem, x_ineg, x_lneg, x_ishl, x_ishr, x_iushr, x_lshl, x_lshr, x_lushr, x_i2l, x_l2i, x_i2b, x_i2c, x_lcmp, x_if_eq, x_if_ne, x_if_lt, x_if_ge, x_if_gt, x_if_le, x_icmp_eq, x_icmp_ne, x_icmp_lt, x_icmp_ge, x_icmp_gt, x_icmp_le, x_dup, x_pop, x_dup_x1, x_dup2, x_iret, x_zret, x_lret, x_aret, x_vret, x_call, x_callv, x_calli, x_oinit, x_mmax, x_mmin, x_mabs, x_mmaxL, x_mminL, x_mabsL, lg_cmp_ge, lg_cmp_le, lg_cmp_gt, lg_cmp_lt, lg_cmp_eq, xlk, xs1, xs2, lv_args, Value.category, List.filter_cons, List.filter_nil, Nat.reduceAdd, Nat.reduceBEq, Nat.reduceEqDiff, Nat.reduceSub, Nat.sub_zero, beq_self_eq_true, Bool.not_true, Bool.not_false, Bool.and_true, Bool.and_false, Bool.true_and, Bool.false_and, reduceIte, reduceCtorEq, Bool.false_eq_true, Nat.one_ne_zero, Nat.zero_ne_one, Nat.zero_add, Option.toList_some, Option.toList_none, List.nil_append, List.cons_append, List.take_succ_cons, List.take_zero, List.take_nil, List.drop_succ_cons, List.drop_zero, List.length_cons, List.length_nil, List.reverse_cons, List.reverse_nil, List.head?_cons, List.map_cons, List.map_nil, List.sum_cons, List.sum_nil, true_and, and_true, List.getElem?_cons_zero, List.getElem?_cons_succ, Prod.eta, x_get, x_put, x_iald, x_iast, x_bald, x_bast, x_lald, x_last, x_alen, xup_s, xup_a1, xup_1a, xup_uu, nr_i, nr_l, nr_o, nr_a, ft_i, ft_l, ft_o, ft_a, Nat.reduceLT, i_cl0, i_cl1, i_n1, i_m1, List.set_cons_zero, List.set_cons_succ, Nat.reduceLeDiff, Nat.le_refl, Nat.zero_le, Nat.add_zero, b_X14_up_24, n2.1, nr_z, ft_z, nO, hO2, moF]
    generalize hA : xup h2 (M + 15) (.inr (12, [.int (bI v), .ref (M + 15 + 1), .ref (M + 15 + 3), .int (iZ e)])) = h3 at *
    have o3 : xoff h3 h2 (M + 15) (M + 15 + 1) := by rw [← hA]; exact off1
    have n3 : nuR h3 (M + 15) v p q e := ⟨by rw [← hA, xup_s], n2.2.1.off o3 (by omega), n2.2.2.1.off o3 (by omega), n2.2.2.2⟩
    have o4 : xoff h3 h (M + 15) (M + 20) := xoff_tr (xoff_wd o3 (by omega) (by omega)) o2
    have B3 : moB h3 M := ⟨⟨_, hB.1.choose_spec.off o4 (by omega)⟩, ⟨_, hB.2.choose_spec.off o4 (by omega)⟩⟩
    have P3 : moP h3 M := by
      obtain ⟨c1, p1, q1, f1, n1⟩ := hP
      exact ⟨c1, p1, q1, f1, n1.off o4 (by omega)⟩
    have hO3 : h3 M = some (.inr (13, moF M s)) := nO.trans hO2
    refine ⟨⟨_, _, rfl, hO3⟩, M, M + 15, s, lo, v, p, q, e, rfl, by omega, hO3, hs5, B3, P3, n3, nq, m1, m2, fun h4 k o5 B4 P4 d4 => ?_⟩
    have kr : -9223372036854775808 < k ∧ k < 9223372036854775808 := by rcases d4 with ⟨rfl, -⟩ | ⟨k1, k2, -⟩ <;> omega
    simp only [x_c, x_iload, x_lload, x_aload, x_istore, x_lstore, x_astore, x_iinc, x_iadd, x_isub, x_imul, x_iand, x_ior, x_ixor, x_ladd, x_lsub, x_lmul, x_land, x_lor, x_lxor, x_idiv, x_irem, x_ldiv, x_lrem, x_ineg, x_lneg, x_ishl, x_ishr, x_iushr, x_lshl, x_lshr, x_lushr, x_i2l, x_l2i, x_i2b, x_i2c, x_lcmp, x_if_eq, x_if_ne, x_if_lt, x_if_ge, x_if_gt, x_if_le, x_icmp_eq, x_icmp_ne, x_icmp_lt, x_icmp_ge, x_icmp_gt, x_icmp_le, x_dup, x_pop, x_dup_x1, x_dup2, x_iret, x_zret, x_lret, x_aret, x_vret, x_call, x_callv, x_calli, x_oinit, x_mmax, x_mmin, x_mabs, x_mmaxL, x_mminL, x_mabsL, lg_cmp_ge, lg_cmp_le, lg_cmp_gt, lg_cmp_lt, lg_cmp_eq, xlk, xs1, xs2, lv_args, Value.category, List.filter_cons, List.filter_nil, Nat.reduceAdd, Nat.reduceBEq, Nat.reduceEqDiff, Nat.reduceSub, Nat.sub_zero, beq_self_eq_true, Bool.not_true, Bool.not_false, Bool.and_true, Bool.and_false, Bool.true_and, Bool.false_and, reduceIte, reduceCtorEq, Bool.false_eq_true, Nat.one_ne_zero, Nat.zero_ne_one, Nat.zero_add, Option.toList_some, Option.toList_none, List.nil_append, List.cons_append, List.take_succ_cons, List.take_zero, List.take_nil, List.drop_succ_cons, List.drop_zero, List.length_cons, List.length_nil, List.reverse_cons, List.reverse_nil, List.head?_cons, List.map_cons, List.map_nil, List.sum_cons, List.sum_nil, true_and, and_true, List.getElem?_cons_zero, List.getElem?_cons_succ, Prod.eta, x_get, x_put, x_iald, x_iast, x_bald, x_bast, x_lald, x_last, x_alen, xup_s, xup_a1, xup_1a, xup_uu, nr_i, nr_l, nr_o, nr_a, ft_i, ft_l, ft_o, ft_a, Nat.reduceLT, i_cl0, i_cl1, i_n1, i_m1, List.set_cons_zero, List.set_cons_succ, Nat.reduceLeDiff, Nat.le_refl, Nat.zero_le, Nat.add_zero]
    refine ⟨k, rfl, kr.1, kr.2, ?_⟩
    simp only [x_c, x_iload, x_lload, x_aload, x_istore, x_lstore, x_astore, x_iinc, x_iadd, x_isub, x_imul, x_iand, x_ior, x_ixor, x_ladd, x_lsub, x_lmul, x_land, x_lor, x_lxor, x_idiv, x_irem, x_ldiv, x_lrem, x_ineg, x_lneg, x_ishl, x_ishr, x_iushr, x_lshl, x_lshr, x_lushr, x_i2l, x_l2i, x_i2b, x_i2c, x_lcmp, x_if_eq, x_if_ne, x_if_lt, x_if_ge, x_if_gt, x_if_le, x_icmp_eq, x_icmp_ne, x_icmp_lt, x_icmp_ge, x_icmp_gt, x_icmp_le, x_dup, x_pop, x_dup_x1, x_dup2, x_iret, x_zret, x_lret, x_aret, x_vret, x_call, x_callv, x_calli, x_oinit, x_mmax, x_mmin, x_mabs, x_mmaxL, x_mminL, x_mabsL, lg_cmp_ge, lg_cmp_le, lg_cmp_gt, lg_cmp_lt, lg_cmp_eq, xlk, xs1, xs2, lv_args, Value.category, List.filter_cons, List.filter_nil, Nat.reduceAdd, Nat.reduceBEq, Nat.reduceEqDiff, Nat.reduceSub, Nat.sub_zero, beq_self_eq_true, Bool.not_true, Bool.not_false, Bool.and_true, Bool.and_false, Bool.true_and, Bool.false_and, reduceIte, reduceCtorEq, Bool.false_eq_true, Nat.one_ne_zero, Nat.zero_ne_one, Nat.zero_add, Option.toList_some, Option.toList_none, List.nil_append, List.cons_append, List.take_succ_cons, List.take_zero, List.take_nil, List.drop_succ_cons, List.drop_zero, List.length_cons, List.length_nil, List.reverse_cons, List.reverse_nil, List.head?_cons, List.map_cons, List.map_nil, List.sum_cons, List.sum_nil, true_and, and_true, List.getElem?_cons_zero, List.getElem?_cons_succ, Prod.eta, x_get, x_put, x_iald, x_iast, x_bald, x_bast, x_lald, x_last, x_alen, xup_s, xup_a1, xup_1a, xup_uu, nr_i, nr_l, nr_o, nr_a, ft_i, ft_l, ft_o, ft_a, Nat.reduceLT, i_cl0, i_cl1, i_n1, i_m1, List.set_cons_zero, List.set_cons_succ, Nat.reduceLeDiff, Nat.le_refl, Nat.zero_le, Nat.add_zero]
    refine hQ h4 (-k) (fun w a1 a2 => (o5 w a1).trans (o4 w a2)) B4 P4 ⟨_, _, _, _, n3.off o5 (by omega)⟩ ?_
    unfold upS
    rw [Int.neg_neg, ← nval_not, ← hv]
    exact d4
  have ob : h2 r = some (.inr (12, [.int (bI b), .ref (r + 1), .ref (r + 3), .int (iZ e)])) := r2.1
  have eb : bI b = 0 ↔ b = false := bI_inj (b := false)
  simp only [x_c, x_iload, x_lload, x_aload, x_istore, x_lstore, x_astore, x_iinc, x_iadd, x_isub, x_imul, x_iand, x_ior, x_ixor, x_ladd, x_lsub, x_lmul, x_land, x_lor, x_lxor, x_idiv, x_irem, x_ldiv, x_lrem, x_ineg, x_lneg, x_ishl, x_ishr, x_iushr, x_lshl, x_lshr, x_lushr, x_i2l, x_l2i, x_i2b, x_i2c, x_lcmp, x_if_eq, x_if_ne, x_if_lt, x_if_ge, x_if_gt, x_if_le, x_icmp_eq, x_icmp_ne, x_icmp_lt, x_icmp_ge, x_icmp_gt, x_icmp_le, x_dup, x_pop, x_dup_x1, x_dup2, x_iret, x_zret, x_lret, x_aret, x_vret, x_call, x_callv, x_calli, x_oinit, x_mmax, x_mmin, x_mabs, x_mmaxL, x_mminL, x_mabsL, lg_cmp_ge, lg_cmp_le, lg_cmp_gt, lg_cmp_lt, lg_cmp_eq, xlk, xs1, xs2, lv_args, Value.category, List.filter_cons, List.filter_nil, Nat.reduceAdd, Nat.reduceBEq, Nat.reduceEqDiff, Nat.reduceSub, Nat.sub_zero, beq_self_eq_true, Bool.not_true, Bool.not_false, Bool.and_true, Bool.and_false, Bool.true_and, Bool.false_and, reduceIte, reduceCtorEq, Bool.false_eq_true, Nat.one_ne_zero, Nat.zero_ne_one, Nat.zero_add, Option.toList_some, Option.toList_none, List.nil_append, List.cons_append, List.take_succ_cons, List.take_zero, List.take_nil, List.drop_succ_cons, List.drop_zero, List.length_cons, List.length_nil, List.reverse_cons, List.reverse_nil, List.head?_cons, List.map_cons, List.map_nil, List.sum_cons, List.sum_nil, true_and, and_true, List.getElem?_cons_zero, List.getElem?_cons_succ, Prod.eta, x_get, x_put, x_iald, x_iast, x_bald, x_bast, x_lald, x_last, x_alen, xup_s, xup_a1, xup_1a, xup_uu, nr_i, nr_l, nr_o, nr_a, ft_i, ft_l, ft_o, ft_a, Nat.reduceLT, i_cl0, i_cl1, i_n1, i_m1, List.set_cons_zero, List.set_cons_succ, Nat.reduceLeDiff, Nat.le_refl, Nat.zero_le, Nat.add_zero, hO2, moF, ob, eb]
  exact ⟨fun z => go false (by cases b <;> first | rfl | exact absurd rfl z), fun z => go true (by rw [z]; rfl)⟩
