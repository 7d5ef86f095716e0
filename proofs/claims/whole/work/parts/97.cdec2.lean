def xofX (h' h : xH) (x : Nat) : Prop := ∀ q, q < x ∨ x + 16 ≤ q ∨ q = x + 10 → h' q = h q
def xofw (h' h : xH) (x : Nat) : Prop := ∀ q, q < x ∨ x + 16 ≤ q ∨ q = x + 10 → q < x + 39 ∨ x + 41 ≤ q → h' q = h q
theorem xofX.x {h' h : xH} {x : Nat} (o : xofX h' h x) : xoff h' h x (x + 16) := fun q c => o q (by omega)
theorem dX10_scaled_0 : decode cX10_scaled 0 = .ok (.aload_n 0, 1) := by decide +kernel
theorem dX10_scaled_1 : decode cX10_scaled 1 = .ok (.getfield 15, 3) := by decide +kernel
theorem dX10_scaled_4 : decode cX10_scaled 4 = .ok (.lload_n 1, 1) := by decide +kernel
theorem dX10_scaled_5 : decode cX10_scaled 5 = .ok (.invokevirtual 110, 3) := by decide +kernel
theorem dX10_scaled_8 : decode cX10_scaled 8 = .ok (.aload_n 0, 1) := by decide +kernel
theorem dX10_scaled_9 : decode cX10_scaled 9 = .ok (.getfield 15, 3) := by decide +kernel
theorem dX10_scaled_12 : decode cX10_scaled 12 = .ok (.iload_n 3, 1) := by decide +kernel
theorem dX10_scaled_13 : decode cX10_scaled 13 = .ok (.invokevirtual 139, 3) := by decide +kernel
theorem dX10_scaled_16 : decode cX10_scaled 16 = .ok (.aload_n 0, 1) := by decide +kernel
theorem dX10_scaled_17 : decode cX10_scaled 17 = .ok (.getfield 19, 3) := by decide +kernel
theorem dX10_scaled_20 : decode cX10_scaled 20 = .ok (.aload_n 0, 1) := by decide +kernel
theorem dX10_scaled_21 : decode cX10_scaled 21 = .ok (.getfield 15, 3) := by decide +kernel
theorem dX10_scaled_24 : decode cX10_scaled 24 = .ok (.iconst 0, 1) := by decide +kernel
theorem dX10_scaled_25 : decode cX10_scaled 25 = .ok (.invokevirtual 142, 3) := by decide +kernel
theorem dX10_scaled_28 : decode cX10_scaled 28 = .ok (.lreturn, 1) := by decide +kernel
abbrev r_X10_scaled : Room := { frames := 3, cells := 0, slots := 0, locals := 74 }
abbrev m_X10_scaled : xMd := (cX10_scaled, RX10, 4, (some FieldType.long), false, r_X10_scaled)
def b_X10_scaled_0 (Q : xQ) : xK := x_aload 0 <| x_get 9 1 <| x_lload 1 <| x_callv 7 C_X8_becomeRank 2 0 0 <| x_aload 0 <| x_get 9 1 <| x_iload 3 <| x_callv 7 C_X8_timesTen 2 0 0 <| x_aload 0 <| x_get 9 2 <| x_aload 0 <| x_get 9 1 <| x_c (.int 0) <| x_callv 4 C_X3_whole 3 0 0 <| x_lret Q
theorem s_X10_scaled_0 (G : xG) (l : Launch) (Q : xQ) : xW G l m_X10_scaled xX0 (xPm G Q r_X10_scaled) 0 (b_X10_scaled_0 Q) := xo_aload_n (pc := 0) (i := 0) dX10_scaled_0 rfl <| xo_get (pc := 1) (ci := 9) (i := 1) rfl ok9 (by decide) dX10_scaled_1 kw247 <| xo_lload_n (pc := 4) (i := 1) dX10_scaled_4 rfl <| xo_callV (pc := 5) (np := 1) (ci := 7) rfl (cM_X8_becomeRank G l) dX10_scaled_5 kw473 kw1114 kw471 kw472 kw7 (by decide +kernel) (by decide) <| xo_aload_n (pc := 8) (i := 0) dX10_scaled_8 rfl <| xo_get (pc := 9) (ci := 9) (i := 1) rfl ok9 (by decide) dX10_scaled_9 kw247 <| xo_iload_n (pc := 12) (i := 3) dX10_scaled_12 rfl <| xo_callV (pc := 13) (np := 1) (ci := 7) rfl (cM_X8_timesTen G l) dX10_scaled_13 kw550 kw1124 kw548 kw549 kw7 (by decide +kernel) (by decide) <| xo_aload_n (pc := 16) (i := 0) dX10_scaled_16 rfl <| xo_get (pc := 17) (ci := 9) (i := 2) rfl ok9 (by decide) dX10_scaled_17 kw248 <| xo_aload_n (pc := 20) (i := 0) dX10_scaled_20 rfl <| xo_get (pc := 21) (ci := 9) (i := 1) rfl ok9 (by decide) dX10_scaled_21 kw247 <| xo_iconst (pc := 24) dX10_scaled_24 (by decide) <| xo_callV (pc := 25) (np := 2) (ci := 4) rfl (cM_X3_whole G l) dX10_scaled_25 kw676 kw1125 kw674 kw675 kw5 (by decide +kernel) (by decide) <| xo_lret (pc := 28) rfl dX10_scaled_28

def C_X10_scaled : xC := fun av S Q => ∃ (x f : Nat) (n : Int) (L : List Nat) (y : Bool), av = [.ref (x + 39), .long (lN f), .int (iZ n)] ∧ 0 < f ∧ f < 9218868437227405312 ∧ (-400 ≤ n ∧ n ≤ 400) ∧ fv f * tn n < ((2 ^ 63 : Nat) : Rat) ∧ wW S.1 x L ∧ exR S.1 x y ∧ reE S.1 (x + 11) ∧ ∀ h' w y, xofX h' S.1 x → exR h' x y → reE h' (x + 11) → whS (fv f * tn n) 0 w y → Q (some (.long (lN w))) (h', S.2)
theorem cM_X10_scaled (G : xG) (l : Launch) : xM G l yX10_scaled cX10_scaled 4 (some FieldType.long) r_X10_scaled C_X10_scaled := by
  refine xM_of (fun Q => b_X10_scaled_0 Q) RX10 false (s_X10_scaled_0 G l) (by decide) rfl (by decide) ?_
  rintro av ⟨h, S2⟩ Q ⟨x, f, n, L, y, rfl, f0, f1, hn, hv, w, ex, re, hQ⟩
  dsimp only at *
  refine ⟨Nat.le_of_ble_eq_true rfl, ?_⟩
  have bf : bF (f : Int) := ⟨by omega, by omega⟩
  have sg : (f : Int).sign = 1 := sgn_p (by omega)
  have na : (f : Int).natAbs = f := by omega
  have ni : decide (f = 9218868437227405312) = false := decide_eq_false (by omega)
  have p0 : fP f ≠ 0 := by have := fP_nz bf (by omega); rw [na] at this; exact this
  have pl := fP_lt f
  have fx := fX_rng f
  have l5 : ∀ k, k ≤ 400 → 5 ^ k ≤ 2 ^ 1200 := fun k hk => Nat.le_trans (Nat.pow_le_pow_left (show 5 ≤ 2 ^ 3 by decide) k) (by rw [← Nat.pow_mul]; exact Nat.pow_le_pow_right (by decide) (by omega))
  have b1 : fP f * 5 ^ n.toNat < 2 ^ 1253 := by
    have := Nat.mul_lt_mul_of_lt_of_le pl (l5 n.toNat (by omega)) (Nat.two_pow_pos _)
    rw [← Nat.pow_add] at this
    exact this
  have b2 : 1 * 5 ^ (-n).toNat < 2 ^ 1201 := by
    rw [Nat.one_mul]
    exact Nat.lt_of_le_of_lt (l5 _ (by omega)) (Nat.pow_lt_pow_right (by decide) (by decide))
  have q0 : 1 * 5 ^ (-n).toNat ≠ 0 := by rw [Nat.one_mul]; exact Nat.ne_of_gt (Nat.pow_pos (by decide))
  have val : sv (fX f + n) (fP f * 5 ^ n.toNat) (1 * 5 ^ (-n).toNat) = fv f * tn n := sv_ten
  simp only [q_c, x_iload, x_lload, x_aload, q_istore, q_lstore, q_astore, q_astore2, x_iinc, q_iadd, q_isub, q_imul, q_iand, q_ior, q_ixor, q_ladd, q_lsub, q_lmul, q_land, q_lor, q_lxor, q_idiv, q_irem, q_ldiv, q_lrem, q_ineg, q_lneg, q_ishl, q_ishr, q_iushr, q_lshl, q_lshr, q_lushr, q_i2l, q_l2i, q_i2b, q_i2c, q_lcmp, q_if_eq, q_if_ne, q_if_lt, q_if_ge, q_if_gt, q_if_le, q_icmp_eq, q_icmp_ne, q_icmp_lt, q_icmp_ge, q_icmp_gt, q_icmp_le, q_dup, q_pop, q_dup_x1, q_dup2, x_iret, x_zret, x_lret, x_aret, x_vret, x_call, x_callv, x_calli, x_oinit, x_mmax, x_mmin, x_mabs, x_mmaxL, x_mminL, x_mabsL, lg_cmp_ge, lg_cmp_le, lg_cmp_gt, lg_cmp_lt, lg_cmp_eq, xlk, q_xs1, q_xs2, lv_args, Value.category, List.filter_cons, List.filter_nil, Nat.reduceAdd, Nat.reduceBEq, Nat.reduceEqDiff, Nat.reduceSub, Nat.sub_zero, beq_self_eq_true, Bool.not_true, Bool.not_false, Bool.and_true, Bool.and_false, Bool.true_and, Bool.false_and, reduceIte, reduceCtorEq, Bool.false_eq_true, Nat.one_ne_zero, Nat.zero_ne_one, Nat.zero_add, Option.toList_some, Option.toList_none, List.nil_append, List.cons_append, List.take_succ_cons, List.take_zero, List.take_nil, List.drop_succ_cons, List.drop_zero, List.length_cons, List.length_nil, List.reverse_cons, List.reverse_nil, List.head?_cons, List.map_cons, List.map_nil, List.sum_cons, List.sum_nil, true_and, and_true, List.getElem?_cons_zero, List.getElem?_cons_succ, Prod.eta, x_iast, x_bald, x_bast, x_last, x_alen, xup_s, xup_a1, xup_1a, xup_uu, nr_i, nr_l, nr_o, nr_a, ft_i, ft_l, ft_o, ft_a, Nat.reduceLT, i_cl0, i_cl1, i_n1, i_m1, List.set_cons_zero, List.set_cons_succ, Nat.reduceLeDiff, Nat.le_refl, Nat.zero_le, Nat.add_zero, x_no, x_ifnull, x_ifnonnull, x_acmp_eq, x_acmp_ne, x_swl, x_tsw, x_castC, true_or, or_true, nr_z, ft_z, nr_z0, nr_z1, ft_z0, ft_z1, nr_on, nr_an, ft_on, ft_an, b_X10_scaled_0, w.1.g1, w.1.g2]
  rw [← lZ_nat]
  refine kr_rank re bf fun h2 oA w2 => ?_
  rw [sg, na, ni] at w2
  have wo2 := (oA (x + 39) (by omega)).trans w.1
  simp only [q_c, x_iload, x_lload, x_aload, q_istore, q_lstore, q_astore, q_astore2, x_iinc, q_iadd, q_isub, q_imul, q_iand, q_ior, q_ixor, q_ladd, q_lsub, q_lmul, q_land, q_lor, q_lxor, q_idiv, q_irem, q_ldiv, q_lrem, q_ineg, q_lneg, q_ishl, q_ishr, q_iushr, q_lshl, q_lshr, q_lushr, q_i2l, q_l2i, q_i2b, q_i2c, q_lcmp, q_if_eq, q_if_ne, q_if_lt, q_if_ge, q_if_gt, q_if_le, q_icmp_eq, q_icmp_ne, q_icmp_lt, q_icmp_ge, q_icmp_gt, q_icmp_le, q_dup, q_pop, q_dup_x1, q_dup2, x_iret, x_zret, x_lret, x_aret, x_vret, x_call, x_callv, x_calli, x_oinit, x_mmax, x_mmin, x_mabs, x_mmaxL, x_mminL, x_mabsL, lg_cmp_ge, lg_cmp_le, lg_cmp_gt, lg_cmp_lt, lg_cmp_eq, xlk, q_xs1, q_xs2, lv_args, Value.category, List.filter_cons, List.filter_nil, Nat.reduceAdd, Nat.reduceBEq, Nat.reduceEqDiff, Nat.reduceSub, Nat.sub_zero, beq_self_eq_true, Bool.not_true, Bool.not_false, Bool.and_true, Bool.and_false, Bool.true_and, Bool.false_and, reduceIte, reduceCtorEq, Bool.false_eq_true, Nat.one_ne_zero, Nat.zero_ne_one, Nat.zero_add, Option.toList_some, Option.toList_none, List.nil_append, List.cons_append, List.take_succ_cons, List.take_zero, List.take_nil, List.drop_succ_cons, List.drop_zero, List.length_cons, List.length_nil, List.reverse_cons, List.reverse_nil, List.head?_cons, List.map_cons, List.map_nil, List.sum_cons, List.sum_nil, true_and, and_true, List.getElem?_cons_zero, List.getElem?_cons_succ, Prod.eta, x_iast, x_bald, x_bast, x_last, x_alen, xup_s, xup_a1, xup_1a, xup_uu, nr_i, nr_l, nr_o, nr_a, ft_i, ft_l, ft_o, ft_a, Nat.reduceLT, i_cl0, i_cl1, i_n1, i_m1, List.set_cons_zero, List.set_cons_succ, Nat.reduceLeDiff, Nat.le_refl, Nat.zero_le, Nat.add_zero, x_no, x_ifnull, x_ifnonnull, x_acmp_eq, x_acmp_ne, x_swl, x_tsw, x_castC, true_or, or_true, nr_z, ft_z, nr_z0, nr_z1, ft_z0, ft_z1, nr_on, nr_an, ft_on, ft_an, wtO.g1 wo2, wtO.g2 wo2]
  refine ⟨w2.rc, x + 11, 1, fX f, n, false, false, fP f, 1, rfl, w2, by omega, fun z => absurd z (by decide), fun _ => ⟨by omega, Nat.lt_of_lt_of_le b1 (Nat.pow_le_pow_right (by decide) (by decide)), Nat.lt_of_lt_of_le b2 (Nat.pow_le_pow_right (by decide) (by decide)), fun h3 oB w3 => ?_⟩⟩
  have wo3 := (oB (x + 39) (by omega)).trans wo2
  have ex3 : exR h3 x y := (ex.off oA (by omega)).off oB (by omega)
  simp only [q_c, x_iload, x_lload, x_aload, q_istore, q_lstore, q_astore, q_astore2, x_iinc, q_iadd, q_isub, q_imul, q_iand, q_ior, q_ixor, q_ladd, q_lsub, q_lmul, q_land, q_lor, q_lxor, q_idiv, q_irem, q_ldiv, q_lrem, q_ineg, q_lneg, q_ishl, q_ishr, q_iushr, q_lshl, q_lshr, q_lushr, q_i2l, q_l2i, q_i2b, q_i2c, q_lcmp, q_if_eq, q_if_ne, q_if_lt, q_if_ge, q_if_gt, q_if_le, q_icmp_eq, q_icmp_ne, q_icmp_lt, q_icmp_ge, q_icmp_gt, q_icmp_le, q_dup, q_pop, q_dup_x1, q_dup2, x_iret, x_zret, x_lret, x_aret, x_vret, x_call, x_callv, x_calli, x_oinit, x_mmax, x_mmin, x_mabs, x_mmaxL, x_mminL, x_mabsL, lg_cmp_ge, lg_cmp_le, lg_cmp_gt, lg_cmp_lt, lg_cmp_eq, xlk, q_xs1, q_xs2, lv_args, Value.category, List.filter_cons, List.filter_nil, Nat.reduceAdd, Nat.reduceBEq, Nat.reduceEqDiff, Nat.reduceSub, Nat.sub_zero, beq_self_eq_true, Bool.not_true, Bool.not_false, Bool.and_true, Bool.and_false, Bool.true_and, Bool.false_and, reduceIte, reduceCtorEq, Bool.false_eq_true, Nat.one_ne_zero, Nat.zero_ne_one, Nat.zero_add, Option.toList_some, Option.toList_none, List.nil_append, List.cons_append, List.take_succ_cons, List.take_zero, List.take_nil, List.drop_succ_cons, List.drop_zero, List.length_cons, List.length_nil, List.reverse_cons, List.reverse_nil, List.head?_cons, List.map_cons, List.map_nil, List.sum_cons, List.sum_nil, true_and, and_true, List.getElem?_cons_zero, List.getElem?_cons_succ, Prod.eta, x_iast, x_bald, x_bast, x_last, x_alen, xup_s, xup_a1, xup_1a, xup_uu, nr_i, nr_l, nr_o, nr_a, ft_i, ft_l, ft_o, ft_a, Nat.reduceLT, i_cl0, i_cl1, i_n1, i_m1, List.set_cons_zero, List.set_cons_succ, Nat.reduceLeDiff, Nat.le_refl, Nat.zero_le, Nat.add_zero, x_no, x_ifnull, x_ifnonnull, x_acmp_eq, x_acmp_ne, x_swl, x_tsw, x_castC, true_or, or_true, nr_z, ft_z, nr_z0, nr_z1, ft_z0, ft_z1, nr_on, nr_an, ft_on, ft_an, wtO.g1 wo3, wtO.g2 wo3]
  obtain ⟨LL, hL⟩ : ∃ LL, LL = fP f * 5 ^ n.toNat * 2 ^ (fX f + n - 0).toNat := ⟨_, rfl⟩
  obtain ⟨RR, hR⟩ : ∃ RR, RR = 1 * 5 ^ (-n).toNat * 2 ^ (0 - (fX f + n)).toNat := ⟨_, rfl⟩
  have R0 : RR ≠ 0 := by rw [hR]; exact Nat.mul_ne_zero q0 (Nat.ne_of_gt (Nat.two_pow_pos _))
  have vu : sv 0 LL RR = fv f * tn n := by rw [hL, hR, ← sv_unit q0, val]
  have lt : LL < 2 ^ 63 * RR := by
    have := hv
    rw [← vu, sv_lt R0] at this
    rw [p2_0, Rat.mul_one, ← Rat.natCast_mul] at this
    exact Rat.natCast_lt_natCast.mp this
  have bL : LL < 2 ^ 6368 := by rw [hL]; exact nb_pw (by have := nb_mono_lt b1; omega)
  have bR : RR < 2 ^ 6368 := by rw [hR]; exact nb_pw (by have := nb_mono_lt b2; omega)
  refine ⟨ex3.rc, x, x + 11, y, 1, fX f + n, 0, false, false, _, _, LL, RR, rfl, ex3, by omega, w3, by decide, q0, hL, hR, lt, fun _ => ⟨bL, bR⟩, fun h4 oC ex4 => ?_⟩
  try simp only [q_c, x_iload, x_lload, x_aload, q_istore, q_lstore, q_astore, q_astore2, x_iinc, q_iadd, q_isub, q_imul, q_iand, q_ior, q_ixor, q_ladd, q_lsub, q_lmul, q_land, q_lor, q_lxor, q_idiv, q_irem, q_ldiv, q_lrem, q_ineg, q_lneg, q_ishl, q_ishr, q_iushr, q_lshl, q_lshr, q_lushr, q_i2l, q_l2i, q_i2b, q_i2c, q_lcmp, q_if_eq, q_if_ne, q_if_lt, q_if_ge, q_if_gt, q_if_le, q_icmp_eq, q_icmp_ne, q_icmp_lt, q_icmp_ge, q_icmp_gt, q_icmp_le, q_dup, q_pop, q_dup_x1, q_dup2, x_iret, x_zret, x_lret, x_aret, x_vret, x_call, x_callv, x_calli, x_oinit, x_mmax, x_mmin, x_mabs, x_mmaxL, x_mminL, x_mabsL, lg_cmp_ge, lg_cmp_le, lg_cmp_gt, lg_cmp_lt, lg_cmp_eq, xlk, q_xs1, q_xs2, lv_args, Value.category, List.filter_cons, List.filter_nil, Nat.reduceAdd, Nat.reduceBEq, Nat.reduceEqDiff, Nat.reduceSub, Nat.sub_zero, beq_self_eq_true, Bool.not_true, Bool.not_false, Bool.and_true, Bool.and_false, Bool.true_and, Bool.false_and, reduceIte, reduceCtorEq, Bool.false_eq_true, Nat.one_ne_zero, Nat.zero_ne_one, Nat.zero_add, Option.toList_some, Option.toList_none, List.nil_append, List.cons_append, List.take_succ_cons, List.take_zero, List.take_nil, List.drop_succ_cons, List.drop_zero, List.length_cons, List.length_nil, List.reverse_cons, List.reverse_nil, List.head?_cons, List.map_cons, List.map_nil, List.sum_cons, List.sum_nil, true_and, and_true, List.getElem?_cons_zero, List.getElem?_cons_succ, Prod.eta, x_iast, x_bald, x_bast, x_last, x_alen, xup_s, xup_a1, xup_1a, xup_uu, nr_i, nr_l, nr_o, nr_a, ft_i, ft_l, ft_o, ft_a, Nat.reduceLT, i_cl0, i_cl1, i_n1, i_m1, List.set_cons_zero, List.set_cons_succ, Nat.reduceLeDiff, Nat.le_refl, Nat.zero_le, Nat.add_zero, x_no, x_ifnull, x_ifnonnull, x_acmp_eq, x_acmp_ne, x_swl, x_tsw, x_castC, true_or, or_true, nr_z, ft_z, nr_z0, nr_z1, ft_z0, ft_z1, nr_on, nr_an, ft_on, ft_an]
  have wh := wh_S (u := 0) (L := LL) (R := RR) R0
  rw [vu] at wh
  exact hQ h4 _ _ (fun z hz => (oC z (by omega)).trans ((oB z (by omega)).trans (oA z (by omega)))) ex4 (w3.E.off oC (by omega)) wh
theorem dX10_putDecimal_0 : decode cX10_putDecimal 0 = .ok (.aload_n 0, 1) := by decide +kernel
theorem dX10_putDecimal_1 : decode cX10_putDecimal 1 = .ok (.getfield 15, 3) := by decide +kernel
theorem dX10_putDecimal_4 : decode cX10_putDecimal 4 = .ok (.lload_n 1, 1) := by decide +kernel
theorem dX10_putDecimal_5 : decode cX10_putDecimal 5 = .ok (.invokevirtual 110, 3) := by decide +kernel
theorem dX10_putDecimal_8 : decode cX10_putDecimal 8 = .ok (.aload_n 0, 1) := by decide +kernel
theorem dX10_putDecimal_9 : decode cX10_putDecimal 9 = .ok (.getfield 15, 3) := by decide +kernel
theorem dX10_putDecimal_12 : decode cX10_putDecimal 12 = .ok (.invokevirtual 115, 3) := by decide +kernel
theorem dX10_putDecimal_15 : decode cX10_putDecimal 15 = .ok (.iconst 1, 1) := by decide +kernel
theorem dX10_putDecimal_16 : decode cX10_putDecimal 16 = .ok (.iadd, 1) := by decide +kernel
theorem dX10_putDecimal_17 : decode cX10_putDecimal 17 = .ok (.sipush 30103, 3) := by decide +kernel
theorem dX10_putDecimal_20 : decode cX10_putDecimal 20 = .ok (.imul, 1) := by decide +kernel
theorem dX10_putDecimal_21 : decode cX10_putDecimal 21 = .ok (.ldc 119, 2) := by decide +kernel
theorem dX10_putDecimal_23 : decode cX10_putDecimal 23 = .ok (.invokestatic 120, 3) := by decide +kernel
theorem dX10_putDecimal_26 : decode cX10_putDecimal 26 = .ok (.istore 5, 2) := by decide +kernel
theorem dX10_putDecimal_28 : decode cX10_putDecimal 28 = .ok (.aload_n 0, 1) := by decide +kernel
theorem dX10_putDecimal_29 : decode cX10_putDecimal 29 = .ok (.lload_n 1, 1) := by decide +kernel
theorem dX10_putDecimal_30 : decode cX10_putDecimal 30 = .ok (.iload_n 3, 1) := by decide +kernel
theorem dX10_putDecimal_31 : decode cX10_putDecimal 31 = .ok (.iconst 1, 1) := by decide +kernel
theorem dX10_putDecimal_32 : decode cX10_putDecimal 32 = .ok (.isub, 1) := by decide +kernel
theorem dX10_putDecimal_33 : decode cX10_putDecimal 33 = .ok (.iload 5, 2) := by decide +kernel
theorem dX10_putDecimal_35 : decode cX10_putDecimal 35 = .ok (.isub, 1) := by decide +kernel
theorem dX10_putDecimal_36 : decode cX10_putDecimal 36 = .ok (.invokevirtual 123, 3) := by decide +kernel
theorem dX10_putDecimal_39 : decode cX10_putDecimal 39 = .ok (.lstore 6, 2) := by decide +kernel
theorem dX10_putDecimal_41 : decode cX10_putDecimal 41 = .ok (.lload 6, 2) := by decide +kernel
theorem dX10_putDecimal_43 : decode cX10_putDecimal 43 = .ok (.getstatic 127, 3) := by decide +kernel
theorem dX10_putDecimal_46 : decode cX10_putDecimal 46 = .ok (.iload_n 3, 1) := by decide +kernel
theorem dX10_putDecimal_47 : decode cX10_putDecimal 47 = .ok (.iconst 1, 1) := by decide +kernel
theorem dX10_putDecimal_48 : decode cX10_putDecimal 48 = .ok (.isub, 1) := by decide +kernel
theorem dX10_putDecimal_49 : decode cX10_putDecimal 49 = .ok (.laload, 1) := by decide +kernel
theorem dX10_putDecimal_50 : decode cX10_putDecimal 50 = .ok (.lcmp, 1) := by decide +kernel
theorem dX10_putDecimal_51 : decode cX10_putDecimal 51 = .ok (.ifCond .ge 19, 3) := by decide +kernel
theorem dX10_putDecimal_54 : decode cX10_putDecimal 54 = .ok (.iinc 5 (-1), 3) := by decide +kernel
theorem dX10_putDecimal_57 : decode cX10_putDecimal 57 = .ok (.aload_n 0, 1) := by decide +kernel
theorem dX10_putDecimal_58 : decode cX10_putDecimal 58 = .ok (.lload_n 1, 1) := by decide +kernel
theorem dX10_putDecimal_59 : decode cX10_putDecimal 59 = .ok (.iload_n 3, 1) := by decide +kernel
theorem dX10_putDecimal_60 : decode cX10_putDecimal 60 = .ok (.iconst 1, 1) := by decide +kernel
theorem dX10_putDecimal_61 : decode cX10_putDecimal 61 = .ok (.isub, 1) := by decide +kernel
theorem dX10_putDecimal_62 : decode cX10_putDecimal 62 = .ok (.iload 5, 2) := by decide +kernel
theorem dX10_putDecimal_64 : decode cX10_putDecimal 64 = .ok (.isub, 1) := by decide +kernel
theorem dX10_putDecimal_65 : decode cX10_putDecimal 65 = .ok (.invokevirtual 123, 3) := by decide +kernel
theorem dX10_putDecimal_68 : decode cX10_putDecimal 68 = .ok (.lstore 6, 2) := by decide +kernel
theorem dX10_putDecimal_70 : decode cX10_putDecimal 70 = .ok (.iload 4, 2) := by decide +kernel
theorem dX10_putDecimal_72 : decode cX10_putDecimal 72 = .ok (.ifCond .eq 19, 3) := by decide +kernel
theorem dX10_putDecimal_75 : decode cX10_putDecimal 75 = .ok (.aload_n 0, 1) := by decide +kernel
theorem dX10_putDecimal_76 : decode cX10_putDecimal 76 = .ok (.getfield 19, 3) := by decide +kernel
theorem dX10_putDecimal_79 : decode cX10_putDecimal 79 = .ok (.getfield 131, 3) := by decide +kernel
theorem dX10_putDecimal_82 : decode cX10_putDecimal 82 = .ok (.ifCond .eq 9, 3) := by decide +kernel
theorem dX10_putDecimal_85 : decode cX10_putDecimal 85 = .ok (.lload 6, 2) := by decide +kernel
theorem dX10_putDecimal_87 : decode cX10_putDecimal 87 = .ok (.lconst 1, 1) := by decide +kernel
theorem dX10_putDecimal_88 : decode cX10_putDecimal 88 = .ok (.ladd, 1) := by decide +kernel
theorem dX10_putDecimal_89 : decode cX10_putDecimal 89 = .ok (.lstore 6, 2) := by decide +kernel
theorem dX10_putDecimal_91 : decode cX10_putDecimal 91 = .ok (.lload 6, 2) := by decide +kernel
theorem dX10_putDecimal_93 : decode cX10_putDecimal 93 = .ok (.getstatic 127, 3) := by decide +kernel
theorem dX10_putDecimal_96 : decode cX10_putDecimal 96 = .ok (.iload_n 3, 1) := by decide +kernel
theorem dX10_putDecimal_97 : decode cX10_putDecimal 97 = .ok (.laload, 1) := by decide +kernel
theorem dX10_putDecimal_98 : decode cX10_putDecimal 98 = .ok (.lcmp, 1) := by decide +kernel
theorem dX10_putDecimal_99 : decode cX10_putDecimal 99 = .ok (.ifCond .lt 15, 3) := by decide +kernel
theorem dX10_putDecimal_102 : decode cX10_putDecimal 102 = .ok (.getstatic 127, 3) := by decide +kernel
theorem dX10_putDecimal_105 : decode cX10_putDecimal 105 = .ok (.iload_n 3, 1) := by decide +kernel
theorem dX10_putDecimal_106 : decode cX10_putDecimal 106 = .ok (.iconst 1, 1) := by decide +kernel
theorem dX10_putDecimal_107 : decode cX10_putDecimal 107 = .ok (.isub, 1) := by decide +kernel
theorem dX10_putDecimal_108 : decode cX10_putDecimal 108 = .ok (.laload, 1) := by decide +kernel
theorem dX10_putDecimal_109 : decode cX10_putDecimal 109 = .ok (.lstore 6, 2) := by decide +kernel
theorem dX10_putDecimal_111 : decode cX10_putDecimal 111 = .ok (.iinc 5 1, 3) := by decide +kernel
theorem dX10_putDecimal_114 : decode cX10_putDecimal 114 = .ok (.iload_n 3, 1) := by decide +kernel
theorem dX10_putDecimal_115 : decode cX10_putDecimal 115 = .ok (.iconst 1, 1) := by decide +kernel
theorem dX10_putDecimal_116 : decode cX10_putDecimal 116 = .ok (.isub, 1) := by decide +kernel
theorem dX10_putDecimal_117 : decode cX10_putDecimal 117 = .ok (.istore 8, 2) := by decide +kernel
theorem dX10_putDecimal_119 : decode cX10_putDecimal 119 = .ok (.iload 8, 2) := by decide +kernel
theorem dX10_putDecimal_121 : decode cX10_putDecimal 121 = .ok (.ifCond .lt 49, 3) := by decide +kernel
theorem dX10_putDecimal_124 : decode cX10_putDecimal 124 = .ok (.aload_n 0, 1) := by decide +kernel
theorem dX10_putDecimal_125 : decode cX10_putDecimal 125 = .ok (.bipush 48, 2) := by decide +kernel
theorem dX10_putDecimal_127 : decode cX10_putDecimal 127 = .ok (.lload 6, 2) := by decide +kernel
theorem dX10_putDecimal_129 : decode cX10_putDecimal 129 = .ok (.getstatic 127, 3) := by decide +kernel
theorem dX10_putDecimal_132 : decode cX10_putDecimal 132 = .ok (.iload 8, 2) := by decide +kernel
theorem dX10_putDecimal_134 : decode cX10_putDecimal 134 = .ok (.laload, 1) := by decide +kernel
theorem dX10_putDecimal_135 : decode cX10_putDecimal 135 = .ok (.ldiv, 1) := by decide +kernel
theorem dX10_putDecimal_136 : decode cX10_putDecimal 136 = .ok (.ldc2_w 137, 3) := by decide +kernel
theorem dX10_putDecimal_139 : decode cX10_putDecimal 139 = .ok (.lrem, 1) := by decide +kernel
theorem dX10_putDecimal_140 : decode cX10_putDecimal 140 = .ok (.l2i, 1) := by decide +kernel
theorem dX10_putDecimal_141 : decode cX10_putDecimal 141 = .ok (.iadd, 1) := by decide +kernel
theorem dX10_putDecimal_142 : decode cX10_putDecimal 142 = .ok (.invokevirtual 50, 3) := by decide +kernel
theorem dX10_putDecimal_145 : decode cX10_putDecimal 145 = .ok (.iload 8, 2) := by decide +kernel
theorem dX10_putDecimal_147 : decode cX10_putDecimal 147 = .ok (.iload_n 3, 1) := by decide +kernel
theorem dX10_putDecimal_148 : decode cX10_putDecimal 148 = .ok (.iconst 1, 1) := by decide +kernel
theorem dX10_putDecimal_149 : decode cX10_putDecimal 149 = .ok (.isub, 1) := by decide +kernel
theorem dX10_putDecimal_150 : decode cX10_putDecimal 150 = .ok (.if_icmp .ne 14, 3) := by decide +kernel
theorem dX10_putDecimal_153 : decode cX10_putDecimal 153 = .ok (.iload 8, 2) := by decide +kernel
theorem dX10_putDecimal_155 : decode cX10_putDecimal 155 = .ok (.ifCond .le 9, 3) := by decide +kernel
theorem dX10_putDecimal_158 : decode cX10_putDecimal 158 = .ok (.aload_n 0, 1) := by decide +kernel
theorem dX10_putDecimal_159 : decode cX10_putDecimal 159 = .ok (.bipush 46, 2) := by decide +kernel
theorem dX10_putDecimal_161 : decode cX10_putDecimal 161 = .ok (.invokevirtual 50, 3) := by decide +kernel
theorem dX10_putDecimal_164 : decode cX10_putDecimal 164 = .ok (.iinc 8 (-1), 3) := by decide +kernel
theorem dX10_putDecimal_167 : decode cX10_putDecimal 167 = .ok (.goto (-48), 3) := by decide +kernel
theorem dX10_putDecimal_170 : decode cX10_putDecimal 170 = .ok (.aload_n 0, 1) := by decide +kernel
theorem dX10_putDecimal_171 : decode cX10_putDecimal 171 = .ok (.bipush 101, 2) := by decide +kernel
theorem dX10_putDecimal_173 : decode cX10_putDecimal 173 = .ok (.invokevirtual 50, 3) := by decide +kernel
theorem dX10_putDecimal_176 : decode cX10_putDecimal 176 = .ok (.aload_n 0, 1) := by decide +kernel
theorem dX10_putDecimal_177 : decode cX10_putDecimal 177 = .ok (.iload 5, 2) := by decide +kernel
theorem dX10_putDecimal_179 : decode cX10_putDecimal 179 = .ok (.invokevirtual 107, 3) := by decide +kernel
theorem dX10_putDecimal_182 : decode cX10_putDecimal 182 = .ok (.return_, 1) := by decide +kernel
abbrev r_X10_putDecimal : Room := { frames := 4, cells := 0, slots := 0, locals := 97 }
abbrev m_X10_putDecimal : xMd := (cX10_putDecimal, RX10, 9, none, false, r_X10_putDecimal)
def b_X10_putDecimal_114 (Q : xQ) (K119 : xK) : xK := x_iload 3 <| x_c (.int 1) <| x_isub <| x_istore 8 <| K119
def b_X10_putDecimal_164 (Q : xQ) (K119 : xK) : xK := x_iinc 8 (-1) <| K119
def b_X10_putDecimal_91 (Q : xQ) (K119 : xK) : xK := x_lload 6 <| x_kst xkT <| x_iload 3 <| x_klald <| x_lcmp <| x_if_lt ((b_X10_putDecimal_114 Q K119)) <| x_kst xkT <| x_iload 3 <| x_c (.int 1) <| x_isub <| x_klald <| x_lstore 6 <| x_iinc 5 1 <| (b_X10_putDecimal_114 Q K119)
def b_X10_putDecimal_119 (Q : xQ) (K119 : xK) : xK := x_iload 8 <| x_if_lt (x_aload 0 <| x_c (.int 101) <| x_callv 9 C_X10_put 2 0 0 <| x_aload 0 <| x_iload 5 <| x_callv 9 C_X10_putWhole 2 0 0 <| x_vret Q) <| x_aload 0 <| x_c (.int 48) <| x_lload 6 <| x_kst xkT <| x_iload 8 <| x_klald <| x_ldiv <| x_c (.long 10) <| x_lrem <| x_l2i <| x_iadd <| x_callv 9 C_X10_put 2 0 0 <| x_iload 8 <| x_iload 3 <| x_c (.int 1) <| x_isub <| x_icmp_ne ((b_X10_putDecimal_164 Q K119)) <| x_iload 8 <| x_if_le ((b_X10_putDecimal_164 Q K119)) <| x_aload 0 <| x_c (.int 46) <| x_callv 9 C_X10_put 2 0 0 <| (b_X10_putDecimal_164 Q K119)
def b_X10_putDecimal_70 (Q : xQ) (K119 : xK) : xK := x_iload 4 <| x_if_eq ((b_X10_putDecimal_91 Q K119)) <| x_aload 0 <| x_get 9 2 <| x_get 4 3 <| x_if_eq ((b_X10_putDecimal_91 Q K119)) <| x_lload 6 <| x_c (.long 1) <| x_ladd <| x_lstore 6 <| (b_X10_putDecimal_91 Q K119)
def b_X10_putDecimal_0 (Q : xQ) (K119 : xK) : xK := x_aload 0 <| x_get 9 1 <| x_lload 1 <| x_callv 7 C_X8_becomeRank 2 0 0 <| x_aload 0 <| x_get 9 1 <| x_callv 7 C_X8_level 1 0 0 <| x_c (.int 1) <| x_iadd <| x_c (.int 30103) <| x_imul <| x_c (.int 100000) <| x_call C_J9_floorDiv_7cf53 2 0 0 <| x_istore 5 <| x_aload 0 <| x_lload 1 <| x_iload 3 <| x_c (.int 1) <| x_isub <| x_iload 5 <| x_isub <| x_callv 9 C_X10_scaled 3 0 0 <| x_lstore 6 <| x_lload 6 <| x_kst xkT <| x_iload 3 <| x_c (.int 1) <| x_isub <| x_klald <| x_lcmp <| x_if_ge ((b_X10_putDecimal_70 Q K119)) <| x_iinc 5 (-1) <| x_aload 0 <| x_lload 1 <| x_iload 3 <| x_c (.int 1) <| x_isub <| x_iload 5 <| x_isub <| x_callv 9 C_X10_scaled 3 0 0 <| x_lstore 6 <| (b_X10_putDecimal_70 Q K119)
theorem s_X10_putDecimal_114 (G : xG) (l : Launch) (Q : xQ) (K119 : xK) (h119 : xW G l m_X10_putDecimal xX0 (xPm G Q r_X10_putDecimal) 119 K119) : xW G l m_X10_putDecimal xX0 (xPm G Q r_X10_putDecimal) 114 (b_X10_putDecimal_114 Q K119) := xo_iload_n (pc := 114) (i := 3) dX10_putDecimal_114 rfl <| xo_iconst (pc := 115) dX10_putDecimal_115 (by decide) <| xo_isub (pc := 116) dX10_putDecimal_116 <| xo_istore (pc := 117) (i := 8) dX10_putDecimal_117 (by decide) <| h119
theorem s_X10_putDecimal_164 (G : xG) (l : Launch) (Q : xQ) (K119 : xK) (h119 : xW G l m_X10_putDecimal xX0 (xPm G Q r_X10_putDecimal) 119 K119) : xW G l m_X10_putDecimal xX0 (xPm G Q r_X10_putDecimal) 164 (b_X10_putDecimal_164 Q K119) := xo_iinc (pc := 164) dX10_putDecimal_164 (by decide) <| xo_goto (pc := 167) (tgt := 119) dX10_putDecimal_167 (by decide) <| h119
theorem s_X10_putDecimal_91 (G : xG) (l : Launch) (Q : xQ) (K119 : xK) (h119 : xW G l m_X10_putDecimal xX0 (xPm G Q r_X10_putDecimal) 119 K119) : xW G l m_X10_putDecimal xX0 (xPm G Q r_X10_putDecimal) 91 (b_X10_putDecimal_91 Q K119) := xo_lload (pc := 91) (i := 6) dX10_putDecimal_91 <| xo_kT (pc := 93) dX10_putDecimal_93 kw1126 <| xo_iload_n (pc := 96) (i := 3) dX10_putDecimal_96 rfl <| xo_klald (pc := 97) dX10_putDecimal_97 <| xo_lcmp (pc := 98) dX10_putDecimal_98 <| xo_if_lt (pc := 99) (tgt := 114) dX10_putDecimal_99 (by decide) ((s_X10_putDecimal_114 G l Q K119 h119)) <| xo_kT (pc := 102) dX10_putDecimal_102 kw1126 <| xo_iload_n (pc := 105) (i := 3) dX10_putDecimal_105 rfl <| xo_iconst (pc := 106) dX10_putDecimal_106 (by decide) <| xo_isub (pc := 107) dX10_putDecimal_107 <| xo_klald (pc := 108) dX10_putDecimal_108 <| xo_lstore (pc := 109) (i := 6) dX10_putDecimal_109 (by decide) <| xo_iinc (pc := 111) dX10_putDecimal_111 (by decide) <| (s_X10_putDecimal_114 G l Q K119 h119)
theorem s_X10_putDecimal_119 (G : xG) (l : Launch) (Q : xQ) (K119 : xK) (h119 : xW G l m_X10_putDecimal xX0 (xPm G Q r_X10_putDecimal) 119 K119) : xW G l m_X10_putDecimal xX0 (xPm G Q r_X10_putDecimal) 119 (b_X10_putDecimal_119 Q K119) := xo_iload (pc := 119) (i := 8) dX10_putDecimal_119 <| xo_if_lt (pc := 121) (tgt := 170) dX10_putDecimal_121 (by decide) (xo_aload_n (pc := 170) (i := 0) dX10_putDecimal_170 rfl <| xo_bipush (pc := 171) dX10_putDecimal_171 (by decide) <| xo_callV (pc := 173) (np := 1) (ci := 9) rfl (cM_X10_put G l) dX10_putDecimal_173 kw1085 kw1082 kw1084 ks39 kw12 (by decide +kernel) (by decide) <| xo_aload_n (pc := 176) (i := 0) dX10_putDecimal_176 rfl <| xo_iload (pc := 177) (i := 5) dX10_putDecimal_177 <| xo_callV (pc := 179) (np := 1) (ci := 9) rfl (cM_X10_putWhole G l) dX10_putDecimal_179 kw1108 kw1105 kw1107 ks42 kw12 (by decide +kernel) (by decide) <| xo_vret (pc := 182) rfl dX10_putDecimal_182) <| xo_aload_n (pc := 124) (i := 0) dX10_putDecimal_124 rfl <| xo_bipush (pc := 125) dX10_putDecimal_125 (by decide) <| xo_lload (pc := 127) (i := 6) dX10_putDecimal_127 <| xo_kT (pc := 129) dX10_putDecimal_129 kw1126 <| xo_iload (pc := 132) (i := 8) dX10_putDecimal_132 <| xo_klald (pc := 134) dX10_putDecimal_134 <| xo_ldiv (pc := 135) dX10_putDecimal_135 <| xo_ldc2_w (pc := 136) dX10_putDecimal_136 kw1128 <| xo_lrem (pc := 139) dX10_putDecimal_139 <| xo_l2i (pc := 140) dX10_putDecimal_140 <| xo_iadd (pc := 141) dX10_putDecimal_141 <| xo_callV (pc := 142) (np := 1) (ci := 9) rfl (cM_X10_put G l) dX10_putDecimal_142 kw1085 kw1082 kw1084 ks39 kw12 (by decide +kernel) (by decide) <| xo_iload (pc := 145) (i := 8) dX10_putDecimal_145 <| xo_iload_n (pc := 147) (i := 3) dX10_putDecimal_147 rfl <| xo_iconst (pc := 148) dX10_putDecimal_148 (by decide) <| xo_isub (pc := 149) dX10_putDecimal_149 <| xo_icmp_ne (pc := 150) (tgt := 164) dX10_putDecimal_150 (by decide) ((s_X10_putDecimal_164 G l Q K119 h119)) <| xo_iload (pc := 153) (i := 8) dX10_putDecimal_153 <| xo_if_le (pc := 155) (tgt := 164) dX10_putDecimal_155 (by decide) ((s_X10_putDecimal_164 G l Q K119 h119)) <| xo_aload_n (pc := 158) (i := 0) dX10_putDecimal_158 rfl <| xo_bipush (pc := 159) dX10_putDecimal_159 (by decide) <| xo_callV (pc := 161) (np := 1) (ci := 9) rfl (cM_X10_put G l) dX10_putDecimal_161 kw1085 kw1082 kw1084 ks39 kw12 (by decide +kernel) (by decide) <| (s_X10_putDecimal_164 G l Q K119 h119)
theorem s_X10_putDecimal_70 (G : xG) (l : Launch) (Q : xQ) (K119 : xK) (h119 : xW G l m_X10_putDecimal xX0 (xPm G Q r_X10_putDecimal) 119 K119) : xW G l m_X10_putDecimal xX0 (xPm G Q r_X10_putDecimal) 70 (b_X10_putDecimal_70 Q K119) := xo_iload (pc := 70) (i := 4) dX10_putDecimal_70 <| xo_if_eq (pc := 72) (tgt := 91) dX10_putDecimal_72 (by decide) ((s_X10_putDecimal_91 G l Q K119 h119)) <| xo_aload_n (pc := 75) (i := 0) dX10_putDecimal_75 rfl <| xo_get (pc := 76) (ci := 9) (i := 2) rfl ok9 (by decide) dX10_putDecimal_76 kw248 <| xo_getN (pc := 79) (ci := 4) (i := 3) rfl ok4 (by decide) dX10_putDecimal_79 kw131 <| xo_if_eq (pc := 82) (tgt := 91) dX10_putDecimal_82 (by decide) ((s_X10_putDecimal_91 G l Q K119 h119)) <| xo_lload (pc := 85) (i := 6) dX10_putDecimal_85 <| xo_lconst (pc := 87) dX10_putDecimal_87 (by decide) <| xo_ladd (pc := 88) dX10_putDecimal_88 <| xo_lstore (pc := 89) (i := 6) dX10_putDecimal_89 (by decide) <| (s_X10_putDecimal_91 G l Q K119 h119)
theorem s_X10_putDecimal_0 (G : xG) (l : Launch) (Q : xQ) (K119 : xK) (h119 : xW G l m_X10_putDecimal xX0 (xPm G Q r_X10_putDecimal) 119 K119) : xW G l m_X10_putDecimal xX0 (xPm G Q r_X10_putDecimal) 0 (b_X10_putDecimal_0 Q K119) := xo_aload_n (pc := 0) (i := 0) dX10_putDecimal_0 rfl <| xo_get (pc := 1) (ci := 9) (i := 1) rfl ok9 (by decide) dX10_putDecimal_1 kw247 <| xo_lload_n (pc := 4) (i := 1) dX10_putDecimal_4 rfl <| xo_callV (pc := 5) (np := 1) (ci := 7) rfl (cM_X8_becomeRank G l) dX10_putDecimal_5 kw473 kw1114 kw471 kw472 kw7 (by decide +kernel) (by decide) <| xo_aload_n (pc := 8) (i := 0) dX10_putDecimal_8 rfl <| xo_get (pc := 9) (ci := 9) (i := 1) rfl ok9 (by decide) dX10_putDecimal_9 kw247 <| xo_callV (pc := 12) (np := 0) (ci := 7) rfl (cM_X8_level G l) dX10_putDecimal_12 kw669 kw1115 kw667 kw668 kw7 (by decide +kernel) (by decide) <| xo_iconst (pc := 15) dX10_putDecimal_15 (by decide) <| xo_iadd (pc := 16) dX10_putDecimal_16 <| xo_sipush (pc := 17) dX10_putDecimal_17 (by decide) <| xo_imul (pc := 20) dX10_putDecimal_20 <| xo_ldc (pc := 21) dX10_putDecimal_21 kw1116 <| xo_callS (pc := 23) (np := 2) (cM_J9_floorDiv_7cf53 G l) dX10_putDecimal_23 kw1119 kw1117 kw1118 kw17 (by decide +kernel) (by decide) <| xo_istore (pc := 26) (i := 5) dX10_putDecimal_26 (by decide) <| xo_aload_n (pc := 28) (i := 0) dX10_putDecimal_28 rfl <| xo_lload_n (pc := 29) (i := 1) dX10_putDecimal_29 rfl <| xo_iload_n (pc := 30) (i := 3) dX10_putDecimal_30 rfl <| xo_iconst (pc := 31) dX10_putDecimal_31 (by decide) <| xo_isub (pc := 32) dX10_putDecimal_32 <| xo_iload (pc := 33) (i := 5) dX10_putDecimal_33 <| xo_isub (pc := 35) dX10_putDecimal_35 <| xo_callV (pc := 36) (np := 2) (ci := 9) rfl (cM_X10_scaled G l) dX10_putDecimal_36 kw1123 kw1120 kw1122 ks44 kw12 (by decide +kernel) (by decide) <| xo_lstore (pc := 39) (i := 6) dX10_putDecimal_39 (by decide) <| xo_lload (pc := 41) (i := 6) dX10_putDecimal_41 <| xo_kT (pc := 43) dX10_putDecimal_43 kw1126 <| xo_iload_n (pc := 46) (i := 3) dX10_putDecimal_46 rfl <| xo_iconst (pc := 47) dX10_putDecimal_47 (by decide) <| xo_isub (pc := 48) dX10_putDecimal_48 <| xo_klald (pc := 49) dX10_putDecimal_49 <| xo_lcmp (pc := 50) dX10_putDecimal_50 <| xo_if_ge (pc := 51) (tgt := 70) dX10_putDecimal_51 (by decide) ((s_X10_putDecimal_70 G l Q K119 h119)) <| xo_iinc (pc := 54) dX10_putDecimal_54 (by decide) <| xo_aload_n (pc := 57) (i := 0) dX10_putDecimal_57 rfl <| xo_lload_n (pc := 58) (i := 1) dX10_putDecimal_58 rfl <| xo_iload_n (pc := 59) (i := 3) dX10_putDecimal_59 rfl <| xo_iconst (pc := 60) dX10_putDecimal_60 (by decide) <| xo_isub (pc := 61) dX10_putDecimal_61 <| xo_iload (pc := 62) (i := 5) dX10_putDecimal_62 <| xo_isub (pc := 64) dX10_putDecimal_64 <| xo_callV (pc := 65) (np := 2) (ci := 9) rfl (cM_X10_scaled G l) dX10_putDecimal_65 kw1123 kw1120 kw1122 ks44 kw12 (by decide +kernel) (by decide) <| xo_lstore (pc := 68) (i := 6) dX10_putDecimal_68 (by decide) <| (s_X10_putDecimal_70 G l Q K119 h119)

theorem xlk_fil2 {lv : List (Nat × Value)} {p : Nat × Value → Bool} {j : Nat} {v : Value} (h : xlk lv j = some v) (hp : p (j, v) = true) : xlk (lv.filter p) j = some v := by
  induction lv with
  | nil => cases h
  | cons a lv ih =>
    obtain ⟨i, u⟩ := a
    rw [q_xlk] at h
    rcases Decidable.em (i = j) with c | c
    · rw [if_pos c] at h
      cases h
      subst c
      rw [List.filter_cons, if_pos hp, q_xlk, if_pos rfl]
    · rw [if_neg c] at h
      rw [List.filter_cons]
      split
      · rw [q_xlk, if_neg c]; exact ih h
      · exact ih h
theorem xt_10 {j : Nat} (h : j < 19) : xten.getD (nI j).toNatClampNeg 0 = lN (10 ^ j) := by
  have h9 : ∀ k : Fin 19, xten.getD (nI k.val).toNatClampNeg 0 = lN (10 ^ k.val) := by decide +kernel
  exact h9 ⟨j, h⟩
theorem woL_b {f d : Nat} {ab : Bool} {P : Int} {W : Nat} (h : rdS (fv f) d P W) (d1 : 1 ≤ d) : woL (fv f) d ab = roC d (if ab = true ∧ (W : Rat) * tn (P - d + 1) < fv f then W + 1 else W) P := by
  unfold woL
  rw [rdS_F d1 h]
def cn_X10_putDecimal : Nat × Nat × Int × Nat × Nat → List (Nat × Value) := fun v => [(0, .ref (v.1 + 39)), (3, .int (nI v.2.1)), (5, .int (iZ v.2.2.1)), (6, .long (lN v.2.2.2.1)), (8, .int (iZ ((v.2.2.2.2 : Int) - 1)))]
def I_X10_putDecimal (Q : xQ) : Nat → Nat × Nat × Int × Nat × Nat → xS → Prop := fun k v S => match v with
  | (x, d, P, W, j) => k = j ∧ j ≤ d ∧ 1 ≤ d ∧ d ≤ 18 ∧ (-999 ≤ P ∧ P ≤ 999) ∧ W < 10 ^ d ∧ ∃ (cur fin : List Nat), wW S.1 x cur ∧ (if j = d then cur ++ roL d W P = fin else cur ++ (dgU W j ++ (101 :: nD P)) = fin) ∧ cur.length + j + 7 ≤ 64 ∧ (j = d → cur.length + j + 8 ≤ 64) ∧ ∀ h', fW h' S.1 x → wW h' x fin → Q none (h', S.2)
def C_X10_putDecimal : xC := fun av S Q => ∃ (x f d : Nat) (ab y : Bool) (L : List Nat), av = [.ref (x + 39), .long (lN f), .int (nI d), .int (bI ab)] ∧ 0 < f ∧ f < 9218868437227405312 ∧ 1 ≤ d ∧ d ≤ 18 ∧ wW S.1 x L ∧ exR S.1 x y ∧ reE S.1 (x + 11) ∧ L.length + 26 ≤ 64 ∧ ∀ h' y, xofw h' S.1 x → exR h' x y → reE h' (x + 11) → wW h' x (L ++ woL (fv f) d ab) → (woL (fv f) d ab).length ≤ 24 → Q none (h', S.2)
theorem nD_len4 {z : Int} (h : -999 ≤ z ∧ z ≤ 999) : (nD z).length ≤ 4 := by
  unfold nD
  have : kD z.natAbs ≤ 2 := by
    unfold kD
    rw [if_pos (show z.natAbs < 1000 by omega)]
    repeat' split
    all_goals omega
  rw [List.length_append, dgL_len]
  split
  · show 1 + _ ≤ _; omega
  · show 0 + _ ≤ _; omega
theorem roL_len4 {d W : Nat} {P : Int} (d1 : 1 ≤ d) (d2 : d ≤ 18) (h : -999 ≤ P ∧ P ≤ 999) : (roL d W P).length ≤ 24 := by
  have := nD_len4 h
  unfold roL
  rw [List.length_cons, List.length_append, List.length_append, dgU_len, List.length_cons]
  split
  · show 1 + _ + 1 ≤ _; omega
  · show 0 + _ + 1 ≤ _; omega
theorem LD119 (G : xG) (l : Launch) (Q : xQ) : xW G l m_X10_putDecimal xX0 (xPm G Q r_X10_putDecimal) 119 (xInv cn_X10_putDecimal (I_X10_putDecimal Q)) := by
  refine xW.lp (b_X10_putDecimal_119 Q) (fun K hK => s_X10_putDecimal_119 G l Q K hK) ?_
  rintro c ⟨x, d, P, W, j⟩ ⟨h, S2⟩ ⟨rfl, hj, d1, d2, hP, hW, cur, fin, w, hfin, hr, hr8, hQ⟩
  dsimp only at *
  have c1 : cn_X10_putDecimal (x, d, P, W, c) = [(0, .ref (x + 39)), (3, .int (nI d)), (5, .int (iZ P)), (6, .long (lN W)), (8, .int (iZ ((c : Int) - 1)))] := rfl
  rw [c1]
  have t18 : 10 ^ d ≤ 1000000000000000000 := Nat.le_trans (Nat.pow_le_pow_right (by decide) d2) (by decide)
  have q1 := iZ_lt0 (z := (c : Int) - 1) (by omega) (by omega)
  generalize hK : xInvL cn_X10_putDecimal (I_X10_putDecimal Q) c = K
  rcases Nat.eq_zero_or_pos c with c0 | c0
  · subst c0
    rw [if_neg (by omega)] at hfin
    have e0 : dgU W 0 = [] := rfl
    rw [e0, List.nil_append] at hfin
    simp only [q_c, x_iload, x_lload, x_aload, q_istore, q_lstore, q_astore, q_astore2, x_iinc, q_iadd, q_isub, q_imul, q_iand, q_ior, q_ixor, q_ladd, q_lsub, q_lmul, q_land, q_lor, q_lxor, q_idiv, q_irem, q_ldiv, q_lrem, q_ineg, q_lneg, q_ishl, q_ishr, q_iushr, q_lshl, q_lshr, q_lushr, q_i2l, q_l2i, q_i2b, q_i2c, q_lcmp, q_if_eq, q_if_ne, q_if_lt, q_if_ge, q_if_gt, q_if_le, q_icmp_eq, q_icmp_ne, q_icmp_lt, q_icmp_ge, q_icmp_gt, q_icmp_le, q_dup, q_pop, q_dup_x1, q_dup2, x_iret, x_zret, x_lret, x_aret, x_vret, x_call, x_callv, x_calli, x_oinit, x_mmax, x_mmin, x_mabs, x_mmaxL, x_mminL, x_mabsL, lg_cmp_ge, lg_cmp_le, lg_cmp_gt, lg_cmp_lt, lg_cmp_eq, xlk, q_xs1, q_xs2, lv_args, Value.category, List.filter_cons, List.filter_nil, Nat.reduceAdd, Nat.reduceBEq, Nat.reduceEqDiff, Nat.reduceSub, Nat.sub_zero, beq_self_eq_true, Bool.not_true, Bool.not_false, Bool.and_true, Bool.and_false, Bool.true_and, Bool.false_and, reduceIte, reduceCtorEq, Bool.false_eq_true, Nat.one_ne_zero, Nat.zero_ne_one, Nat.zero_add, Option.toList_some, Option.toList_none, List.nil_append, List.cons_append, List.take_succ_cons, List.take_zero, List.take_nil, List.drop_succ_cons, List.drop_zero, List.length_cons, List.length_nil, List.reverse_cons, List.reverse_nil, List.head?_cons, List.map_cons, List.map_nil, List.sum_cons, List.sum_nil, true_and, and_true, List.getElem?_cons_zero, List.getElem?_cons_succ, Prod.eta, x_iast, x_bald, x_bast, x_last, x_alen, xup_s, xup_a1, xup_1a, xup_uu, nr_i, nr_l, nr_o, nr_a, ft_i, ft_l, ft_o, ft_a, Nat.reduceLT, i_cl0, i_cl1, i_n1, i_m1, List.set_cons_zero, List.set_cons_succ, Nat.reduceLeDiff, Nat.le_refl, Nat.zero_le, Nat.add_zero, x_no, x_ifnull, x_ifnonnull, x_acmp_eq, x_acmp_ne, x_swl, x_tsw, x_castC, true_or, or_true, nr_z, ft_z, nr_z0, nr_z1, ft_z0, ft_z1, nr_on, nr_an, ft_on, ft_an, b_X10_putDecimal_119, q1]
    refine ⟨fun _ => kw_put (b := 101) w (by decide) (by omega) fun h2 f2 w2 => ?_, fun y => by omega⟩
    try simp only [q_c, x_iload, x_lload, x_aload, q_istore, q_lstore, q_astore, q_astore2, x_iinc, q_iadd, q_isub, q_imul, q_iand, q_ior, q_ixor, q_ladd, q_lsub, q_lmul, q_land, q_lor, q_lxor, q_idiv, q_irem, q_ldiv, q_lrem, q_ineg, q_lneg, q_ishl, q_ishr, q_iushr, q_lshl, q_lshr, q_lushr, q_i2l, q_l2i, q_i2b, q_i2c, q_lcmp, q_if_eq, q_if_ne, q_if_lt, q_if_ge, q_if_gt, q_if_le, q_icmp_eq, q_icmp_ne, q_icmp_lt, q_icmp_ge, q_icmp_gt, q_icmp_le, q_dup, q_pop, q_dup_x1, q_dup2, x_iret, x_zret, x_lret, x_aret, x_vret, x_call, x_callv, x_calli, x_oinit, x_mmax, x_mmin, x_mabs, x_mmaxL, x_mminL, x_mabsL, lg_cmp_ge, lg_cmp_le, lg_cmp_gt, lg_cmp_lt, lg_cmp_eq, xlk, q_xs1, q_xs2, lv_args, Value.category, List.filter_cons, List.filter_nil, Nat.reduceAdd, Nat.reduceBEq, Nat.reduceEqDiff, Nat.reduceSub, Nat.sub_zero, beq_self_eq_true, Bool.not_true, Bool.not_false, Bool.and_true, Bool.and_false, Bool.true_and, Bool.false_and, reduceIte, reduceCtorEq, Bool.false_eq_true, Nat.one_ne_zero, Nat.zero_ne_one, Nat.zero_add, Option.toList_some, Option.toList_none, List.nil_append, List.cons_append, List.take_succ_cons, List.take_zero, List.take_nil, List.drop_succ_cons, List.drop_zero, List.length_cons, List.length_nil, List.reverse_cons, List.reverse_nil, List.head?_cons, List.map_cons, List.map_nil, List.sum_cons, List.sum_nil, true_and, and_true, List.getElem?_cons_zero, List.getElem?_cons_succ, Prod.eta, x_iast, x_bald, x_bast, x_last, x_alen, xup_s, xup_a1, xup_1a, xup_uu, nr_i, nr_l, nr_o, nr_a, ft_i, ft_l, ft_o, ft_a, Nat.reduceLT, i_cl0, i_cl1, i_n1, i_m1, List.set_cons_zero, List.set_cons_succ, Nat.reduceLeDiff, Nat.le_refl, Nat.zero_le, Nat.add_zero, x_no, x_ifnull, x_ifnonnull, x_acmp_eq, x_acmp_ne, x_swl, x_tsw, x_castC, true_or, or_true, nr_z, ft_z, nr_z0, nr_z1, ft_z0, ft_z1, nr_on, nr_an, ft_on, ft_an]
    refine ⟨w2.rc, x, P, _, rfl, by omega, w2, by rw [List.length_append, List.length_singleton]; omega, fun h3 f3 w3 => ?_⟩
    try simp only [q_c, x_iload, x_lload, x_aload, q_istore, q_lstore, q_astore, q_astore2, x_iinc, q_iadd, q_isub, q_imul, q_iand, q_ior, q_ixor, q_ladd, q_lsub, q_lmul, q_land, q_lor, q_lxor, q_idiv, q_irem, q_ldiv, q_lrem, q_ineg, q_lneg, q_ishl, q_ishr, q_iushr, q_lshl, q_lshr, q_lushr, q_i2l, q_l2i, q_i2b, q_i2c, q_lcmp, q_if_eq, q_if_ne, q_if_lt, q_if_ge, q_if_gt, q_if_le, q_icmp_eq, q_icmp_ne, q_icmp_lt, q_icmp_ge, q_icmp_gt, q_icmp_le, q_dup, q_pop, q_dup_x1, q_dup2, x_iret, x_zret, x_lret, x_aret, x_vret, x_call, x_callv, x_calli, x_oinit, x_mmax, x_mmin, x_mabs, x_mmaxL, x_mminL, x_mabsL, lg_cmp_ge, lg_cmp_le, lg_cmp_gt, lg_cmp_lt, lg_cmp_eq, xlk, q_xs1, q_xs2, lv_args, Value.category, List.filter_cons, List.filter_nil, Nat.reduceAdd, Nat.reduceBEq, Nat.reduceEqDiff, Nat.reduceSub, Nat.sub_zero, beq_self_eq_true, Bool.not_true, Bool.not_false, Bool.and_true, Bool.and_false, Bool.true_and, Bool.false_and, reduceIte, reduceCtorEq, Bool.false_eq_true, Nat.one_ne_zero, Nat.zero_ne_one, Nat.zero_add, Option.toList_some, Option.toList_none, List.nil_append, List.cons_append, List.take_succ_cons, List.take_zero, List.take_nil, List.drop_succ_cons, List.drop_zero, List.length_cons, List.length_nil, List.reverse_cons, List.reverse_nil, List.head?_cons, List.map_cons, List.map_nil, List.sum_cons, List.sum_nil, true_and, and_true, List.getElem?_cons_zero, List.getElem?_cons_succ, Prod.eta, x_iast, x_bald, x_bast, x_last, x_alen, xup_s, xup_a1, xup_1a, xup_uu, nr_i, nr_l, nr_o, nr_a, ft_i, ft_l, ft_o, ft_a, Nat.reduceLT, i_cl0, i_cl1, i_n1, i_m1, List.set_cons_zero, List.set_cons_succ, Nat.reduceLeDiff, Nat.le_refl, Nat.zero_le, Nat.add_zero, x_no, x_ifnull, x_ifnonnull, x_acmp_eq, x_acmp_ne, x_swl, x_tsw, x_castC, true_or, or_true, nr_z, ft_z, nr_z0, nr_z1, ft_z0, ft_z1, nr_on, nr_an, ft_on, ft_an]
    rw [List.append_assoc] at w3
    exact hQ h3 (xoff_tr f3 f2) (by rw [← hfin]; exact w3)
  · obtain ⟨j, rfl⟩ : ∃ j, c = j + 1 := ⟨c - 1, by omega⟩
    have e1 : iZ (((j + 1 : Nat) : Int) - 1) = nI j := by rw [← iZ_nat]; congr 1; omega
    have pp : 0 < 10 ^ j := Nat.pow_pos (by decide)
    have pl : 10 ^ j ≤ 10 ^ d := Nat.pow_le_pow_right (by decide) (by omega)
    have nz : (lN (10 ^ j) = 0) = False := eq_false (fun y => absurd ((pk_lEQ (a := 10 ^ j) (b := 0) (by omega) (by decide)).mp y) (by omega))
    have nt : ((10 : Int64) = 0) = False := eq_false (by decide)
    have g1 : lN W / lN (10 ^ j) = lN (W / 10 ^ j) := pk_lDiv (by omega) pp (by omega)
    have vd : W / 10 ^ j ≤ W := Nat.div_le_self _ _
    have g2 : lN (W / 10 ^ j) - lN (W / 10 ^ j) / 10 * 10 = lN (W / 10 ^ j % 10) := pk_lRem (b := 10) (by omega) (by decide) (by decide)
    have g3 : (48 : Int32) + nI (W / 10 ^ j % 10) = nI (48 + W / 10 ^ j % 10) := by rw [← iZ_nat, ← iZ_nat, show (48 : Int32) = iZ 48 from rfl, iZ_add]; congr 1
    have v : vp_in (nI j) 19 = True := eq_true (vp_in_nI (by omega) (by decide))
    have xt := xt_10 (j := j) (by omega)
    have s1 : nI d - 1 = nI (d - 1) := pk_sub (b := 1) (by omega)
    have q2 : nI j = nI (d - 1) ↔ j = d - 1 := nI_eq (by omega) (by omega)
    have q3 : nI j ≤ (0 : Int32) ↔ j ≤ 0 := nc_le (b := 0) (by omega) (by decide)
    have e5 : nI j + Int32.ofInt (-1) = iZ ((j : Int) - 1) := by
      rw [← iZ_nat, show Int32.ofInt (-1) = iZ (-1) from rfl, iZ_add]; congr 1
    have g164 : ∀ h2 cur2, fW h2 h x → wW h2 x cur2 → cur2 ++ (dgU W j ++ (101 :: nD P)) = fin → cur2.length + j + 7 ≤ 64 → b_X10_putDecimal_164 Q K [(0, .ref (x + 39)), (3, .int (nI d)), (5, .int (iZ P)), (6, .long (lN W)), (8, .int (nI j))] [] (h2, S2) := by
      intro h2 cur2 f2 w2 hf2 hr2
      simp only [q_c, x_iload, x_lload, x_aload, q_istore, q_lstore, q_astore, q_astore2, x_iinc, q_iadd, q_isub, q_imul, q_iand, q_ior, q_ixor, q_ladd, q_lsub, q_lmul, q_land, q_lor, q_lxor, q_idiv, q_irem, q_ldiv, q_lrem, q_ineg, q_lneg, q_ishl, q_ishr, q_iushr, q_lshl, q_lshr, q_lushr, q_i2l, q_l2i, q_i2b, q_i2c, q_lcmp, q_if_eq, q_if_ne, q_if_lt, q_if_ge, q_if_gt, q_if_le, q_icmp_eq, q_icmp_ne, q_icmp_lt, q_icmp_ge, q_icmp_gt, q_icmp_le, q_dup, q_pop, q_dup_x1, q_dup2, x_iret, x_zret, x_lret, x_aret, x_vret, x_call, x_callv, x_calli, x_oinit, x_mmax, x_mmin, x_mabs, x_mmaxL, x_mminL, x_mabsL, lg_cmp_ge, lg_cmp_le, lg_cmp_gt, lg_cmp_lt, lg_cmp_eq, xlk, q_xs1, q_xs2, lv_args, Value.category, List.filter_cons, List.filter_nil, Nat.reduceAdd, Nat.reduceBEq, Nat.reduceEqDiff, Nat.reduceSub, Nat.sub_zero, beq_self_eq_true, Bool.not_true, Bool.not_false, Bool.and_true, Bool.and_false, Bool.true_and, Bool.false_and, reduceIte, reduceCtorEq, Bool.false_eq_true, Nat.one_ne_zero, Nat.zero_ne_one, Nat.zero_add, Option.toList_some, Option.toList_none, List.nil_append, List.cons_append, List.take_succ_cons, List.take_zero, List.take_nil, List.drop_succ_cons, List.drop_zero, List.length_cons, List.length_nil, List.reverse_cons, List.reverse_nil, List.head?_cons, List.map_cons, List.map_nil, List.sum_cons, List.sum_nil, true_and, and_true, List.getElem?_cons_zero, List.getElem?_cons_succ, Prod.eta, x_iast, x_bald, x_bast, x_last, x_alen, xup_s, xup_a1, xup_1a, xup_uu, nr_i, nr_l, nr_o, nr_a, ft_i, ft_l, ft_o, ft_a, Nat.reduceLT, i_cl0, i_cl1, i_n1, i_m1, List.set_cons_zero, List.set_cons_succ, Nat.reduceLeDiff, Nat.le_refl, Nat.zero_le, Nat.add_zero, x_no, x_ifnull, x_ifnonnull, x_acmp_eq, x_acmp_ne, x_swl, x_tsw, x_castC, true_or, or_true, nr_z, ft_z, nr_z0, nr_z1, ft_z0, ft_z1, nr_on, nr_an, ft_on, ft_an, b_X10_putDecimal_164, e5]
      rw [← hK]
      exact xInvL.mk j (x, d, P, W, j) (by omega) ⟨rfl, rfl, rfl, rfl, rfl, trivial⟩ ⟨rfl, by omega, d1, d2, hP, hW, cur2, fin, w2, by rw [if_neg (by omega)]; exact hf2, hr2, fun t => by omega, fun h3 f3 w3 => hQ h3 (xoff_tr f3 f2) w3⟩
    rw [e1] at q1
    unfold b_X10_putDecimal_119
    generalize b_X10_putDecimal_164 Q K = J at *
    simp only [q_c, x_iload, x_lload, x_aload, q_istore, q_lstore, q_astore, q_astore2, x_iinc, q_iadd, q_isub, q_imul, q_iand, q_ior, q_ixor, q_ladd, q_lsub, q_lmul, q_land, q_lor, q_lxor, q_idiv, q_irem, q_ldiv, q_lrem, q_ineg, q_lneg, q_ishl, q_ishr, q_iushr, q_lshl, q_lshr, q_lushr, q_i2l, q_l2i, q_i2b, q_i2c, q_lcmp, q_if_eq, q_if_ne, q_if_lt, q_if_ge, q_if_gt, q_if_le, q_icmp_eq, q_icmp_ne, q_icmp_lt, q_icmp_ge, q_icmp_gt, q_icmp_le, q_dup, q_pop, q_dup_x1, q_dup2, x_iret, x_zret, x_lret, x_aret, x_vret, x_call, x_callv, x_calli, x_oinit, x_mmax, x_mmin, x_mabs, x_mmaxL, x_mminL, x_mabsL, lg_cmp_ge, lg_cmp_le, lg_cmp_gt, lg_cmp_lt, lg_cmp_eq, xlk, q_xs1, q_xs2, lv_args, Value.category, List.filter_cons, List.filter_nil, Nat.reduceAdd, Nat.reduceBEq, Nat.reduceEqDiff, Nat.reduceSub, Nat.sub_zero, beq_self_eq_true, Bool.not_true, Bool.not_false, Bool.and_true, Bool.and_false, Bool.true_and, Bool.false_and, reduceIte, reduceCtorEq, Bool.false_eq_true, Nat.one_ne_zero, Nat.zero_ne_one, Nat.zero_add, Option.toList_some, Option.toList_none, List.nil_append, List.cons_append, List.take_succ_cons, List.take_zero, List.take_nil, List.drop_succ_cons, List.drop_zero, List.length_cons, List.length_nil, List.reverse_cons, List.reverse_nil, List.head?_cons, List.map_cons, List.map_nil, List.sum_cons, List.sum_nil, true_and, and_true, List.getElem?_cons_zero, List.getElem?_cons_succ, Prod.eta, x_iast, x_bald, x_bast, x_last, x_alen, xup_s, xup_a1, xup_1a, xup_uu, nr_i, nr_l, nr_o, nr_a, ft_i, ft_l, ft_o, ft_a, Nat.reduceLT, i_cl0, i_cl1, i_n1, i_m1, List.set_cons_zero, List.set_cons_succ, Nat.reduceLeDiff, Nat.le_refl, Nat.zero_le, Nat.add_zero, x_no, x_ifnull, x_ifnonnull, x_acmp_eq, x_acmp_ne, x_swl, x_tsw, x_castC, true_or, or_true, nr_z, ft_z, nr_z0, nr_z1, ft_z0, ft_z1, nr_on, nr_an, ft_on, ft_an, e1, q1]
    refine ⟨fun y => by omega, fun _ => ?_⟩
    simp only [q_c, x_iload, x_lload, x_aload, q_istore, q_lstore, q_astore, q_astore2, x_iinc, q_iadd, q_isub, q_imul, q_iand, q_ior, q_ixor, q_ladd, q_lsub, q_lmul, q_land, q_lor, q_lxor, q_idiv, q_irem, q_ldiv, q_lrem, q_ineg, q_lneg, q_ishl, q_ishr, q_iushr, q_lshl, q_lshr, q_lushr, q_i2l, q_l2i, q_i2b, q_i2c, q_lcmp, q_if_eq, q_if_ne, q_if_lt, q_if_ge, q_if_gt, q_if_le, q_icmp_eq, q_icmp_ne, q_icmp_lt, q_icmp_ge, q_icmp_gt, q_icmp_le, q_dup, q_pop, q_dup_x1, q_dup2, x_iret, x_zret, x_lret, x_aret, x_vret, x_call, x_callv, x_calli, x_oinit, x_mmax, x_mmin, x_mabs, x_mmaxL, x_mminL, x_mabsL, lg_cmp_ge, lg_cmp_le, lg_cmp_gt, lg_cmp_lt, lg_cmp_eq, xlk, q_xs1, q_xs2, lv_args, Value.category, List.filter_cons, List.filter_nil, Nat.reduceAdd, Nat.reduceBEq, Nat.reduceEqDiff, Nat.reduceSub, Nat.sub_zero, beq_self_eq_true, Bool.not_true, Bool.not_false, Bool.and_true, Bool.and_false, Bool.true_and, Bool.false_and, reduceIte, reduceCtorEq, Bool.false_eq_true, Nat.one_ne_zero, Nat.zero_ne_one, Nat.zero_add, Option.toList_some, Option.toList_none, List.nil_append, List.cons_append, List.take_succ_cons, List.take_zero, List.take_nil, List.drop_succ_cons, List.drop_zero, List.length_cons, List.length_nil, List.reverse_cons, List.reverse_nil, List.head?_cons, List.map_cons, List.map_nil, List.sum_cons, List.sum_nil, true_and, and_true, List.getElem?_cons_zero, List.getElem?_cons_succ, Prod.eta, x_iast, x_bald, x_bast, x_last, x_alen, xup_s, xup_a1, xup_1a, xup_uu, nr_i, nr_l, nr_o, nr_a, ft_i, ft_l, ft_o, ft_a, Nat.reduceLT, i_cl0, i_cl1, i_n1, i_m1, List.set_cons_zero, List.set_cons_succ, Nat.reduceLeDiff, Nat.le_refl, Nat.zero_le, Nat.add_zero, x_no, x_ifnull, x_ifnonnull, x_acmp_eq, x_acmp_ne, x_swl, x_tsw, x_castC, true_or, or_true, nr_z, ft_z, nr_z0, nr_z1, ft_z0, ft_z1, nr_on, nr_an, ft_on, ft_an, x_kst]
    intro a ha hu
    simp only [q_c, x_iload, x_lload, x_aload, q_istore, q_lstore, q_astore, q_astore2, x_iinc, q_iadd, q_isub, q_imul, q_iand, q_ior, q_ixor, q_ladd, q_lsub, q_lmul, q_land, q_lor, q_lxor, q_idiv, q_irem, q_ldiv, q_lrem, q_ineg, q_lneg, q_ishl, q_ishr, q_iushr, q_lshl, q_lshr, q_lushr, q_i2l, q_l2i, q_i2b, q_i2c, q_lcmp, q_if_eq, q_if_ne, q_if_lt, q_if_ge, q_if_gt, q_if_le, q_icmp_eq, q_icmp_ne, q_icmp_lt, q_icmp_ge, q_icmp_gt, q_icmp_le, q_dup, q_pop, q_dup_x1, q_dup2, x_iret, x_zret, x_lret, x_aret, x_vret, x_call, x_callv, x_calli, x_oinit, x_mmax, x_mmin, x_mabs, x_mmaxL, x_mminL, x_mabsL, lg_cmp_ge, lg_cmp_le, lg_cmp_gt, lg_cmp_lt, lg_cmp_eq, xlk, q_xs1, q_xs2, lv_args, Value.category, List.filter_cons, List.filter_nil, Nat.reduceAdd, Nat.reduceBEq, Nat.reduceEqDiff, Nat.reduceSub, Nat.sub_zero, beq_self_eq_true, Bool.not_true, Bool.not_false, Bool.and_true, Bool.and_false, Bool.true_and, Bool.false_and, reduceIte, reduceCtorEq, Bool.false_eq_true, Nat.one_ne_zero, Nat.zero_ne_one, Nat.zero_add, Option.toList_some, Option.toList_none, List.nil_append, List.cons_append, List.take_succ_cons, List.take_zero, List.take_nil, List.drop_succ_cons, List.drop_zero, List.length_cons, List.length_nil, List.reverse_cons, List.reverse_nil, List.head?_cons, List.map_cons, List.map_nil, List.sum_cons, List.sum_nil, true_and, and_true, List.getElem?_cons_zero, List.getElem?_cons_succ, Prod.eta, x_iast, x_bald, x_bast, x_last, x_alen, xup_s, xup_a1, xup_1a, xup_uu, nr_i, nr_l, nr_o, nr_a, ft_i, ft_l, ft_o, ft_a, Nat.reduceLT, i_cl0, i_cl1, i_n1, i_m1, List.set_cons_zero, List.set_cons_succ, Nat.reduceLeDiff, Nat.le_refl, Nat.zero_le, Nat.add_zero, x_no, x_ifnull, x_ifnonnull, x_acmp_eq, x_acmp_ne, x_swl, x_tsw, x_castC, true_or, or_true, nr_z, ft_z, nr_z0, nr_z1, ft_z0, ft_z1, nr_on, nr_an, ft_on, ft_an, x_klald, ha, v, xt, nz, nt, not_false_eq_true, g1, g2, g3, lN_l2i]
    refine kw_put w (by omega) (by omega) fun h2 f2 w2 => ?_
    have w2l : (cur ++ [48 + W / 10 ^ j % 10]).length = cur.length + 1 := by rw [List.length_append, List.length_singleton]
    simp only [q_c, x_iload, x_lload, x_aload, q_istore, q_lstore, q_astore, q_astore2, x_iinc, q_iadd, q_isub, q_imul, q_iand, q_ior, q_ixor, q_ladd, q_lsub, q_lmul, q_land, q_lor, q_lxor, q_idiv, q_irem, q_ldiv, q_lrem, q_ineg, q_lneg, q_ishl, q_ishr, q_iushr, q_lshl, q_lshr, q_lushr, q_i2l, q_l2i, q_i2b, q_i2c, q_lcmp, q_if_eq, q_if_ne, q_if_lt, q_if_ge, q_if_gt, q_if_le, q_icmp_eq, q_icmp_ne, q_icmp_lt, q_icmp_ge, q_icmp_gt, q_icmp_le, q_dup, q_pop, q_dup_x1, q_dup2, x_iret, x_zret, x_lret, x_aret, x_vret, x_call, x_callv, x_calli, x_oinit, x_mmax, x_mmin, x_mabs, x_mmaxL, x_mminL, x_mabsL, lg_cmp_ge, lg_cmp_le, lg_cmp_gt, lg_cmp_lt, lg_cmp_eq, xlk, q_xs1, q_xs2, lv_args, Value.category, List.filter_cons, List.filter_nil, Nat.reduceAdd, Nat.reduceBEq, Nat.reduceEqDiff, Nat.reduceSub, Nat.sub_zero, beq_self_eq_true, Bool.not_true, Bool.not_false, Bool.and_true, Bool.and_false, Bool.true_and, Bool.false_and, reduceIte, reduceCtorEq, Bool.false_eq_true, Nat.one_ne_zero, Nat.zero_ne_one, Nat.zero_add, Option.toList_some, Option.toList_none, List.nil_append, List.cons_append, List.take_succ_cons, List.take_zero, List.take_nil, List.drop_succ_cons, List.drop_zero, List.length_cons, List.length_nil, List.reverse_cons, List.reverse_nil, List.head?_cons, List.map_cons, List.map_nil, List.sum_cons, List.sum_nil, true_and, and_true, List.getElem?_cons_zero, List.getElem?_cons_succ, Prod.eta, x_iast, x_bald, x_bast, x_last, x_alen, xup_s, xup_a1, xup_1a, xup_uu, nr_i, nr_l, nr_o, nr_a, ft_i, ft_l, ft_o, ft_a, Nat.reduceLT, i_cl0, i_cl1, i_n1, i_m1, List.set_cons_zero, List.set_cons_succ, Nat.reduceLeDiff, Nat.le_refl, Nat.zero_le, Nat.add_zero, x_no, x_ifnull, x_ifnonnull, x_acmp_eq, x_acmp_ne, x_swl, x_tsw, x_castC, true_or, or_true, nr_z, ft_z, nr_z0, nr_z1, ft_z0, ft_z1, nr_on, nr_an, ft_on, ft_an, s1, q2, q3]
    refine ⟨fun y => ?_, fun y => ⟨fun z => ?_, fun z => ?_⟩⟩
    · rw [if_neg (by omega)] at hfin
      refine g164 h2 _ f2 w2 ?_ (by rw [w2l]; omega)
      rw [List.append_assoc]
      exact hfin
    · rw [if_pos (by omega)] at hfin
      refine g164 h2 _ f2 w2 ?_ (by rw [w2l]; omega)
      have j0 : j = 0 := by omega
      have d0 : d = 1 := by omega
      subst j0
      subst d0
      rw [← hfin, List.append_assoc]
      have : W / 10 ^ 0 % 10 = W / 10 ^ (1 - 1) := by
        rw [Nat.pow_zero, Nat.div_one]
        exact Nat.mod_eq_of_lt hW
      unfold roL
      rw [this, if_neg (by decide), List.nil_append]
      rfl
    · rw [if_pos (by omega)] at hfin
      refine kw_put (b := 46) w2 (by decide) (by rw [w2l]; omega) fun h3 f3 w3 => ?_
      try simp only [q_c, x_iload, x_lload, x_aload, q_istore, q_lstore, q_astore, q_astore2, x_iinc, q_iadd, q_isub, q_imul, q_iand, q_ior, q_ixor, q_ladd, q_lsub, q_lmul, q_land, q_lor, q_lxor, q_idiv, q_irem, q_ldiv, q_lrem, q_ineg, q_lneg, q_ishl, q_ishr, q_iushr, q_lshl, q_lshr, q_lushr, q_i2l, q_l2i, q_i2b, q_i2c, q_lcmp, q_if_eq, q_if_ne, q_if_lt, q_if_ge, q_if_gt, q_if_le, q_icmp_eq, q_icmp_ne, q_icmp_lt, q_icmp_ge, q_icmp_gt, q_icmp_le, q_dup, q_pop, q_dup_x1, q_dup2, x_iret, x_zret, x_lret, x_aret, x_vret, x_call, x_callv, x_calli, x_oinit, x_mmax, x_mmin, x_mabs, x_mmaxL, x_mminL, x_mabsL, lg_cmp_ge, lg_cmp_le, lg_cmp_gt, lg_cmp_lt, lg_cmp_eq, xlk, q_xs1, q_xs2, lv_args, Value.category, List.filter_cons, List.filter_nil, Nat.reduceAdd, Nat.reduceBEq, Nat.reduceEqDiff, Nat.reduceSub, Nat.sub_zero, beq_self_eq_true, Bool.not_true, Bool.not_false, Bool.and_true, Bool.and_false, Bool.true_and, Bool.false_and, reduceIte, reduceCtorEq, Bool.false_eq_true, Nat.one_ne_zero, Nat.zero_ne_one, Nat.zero_add, Option.toList_some, Option.toList_none, List.nil_append, List.cons_append, List.take_succ_cons, List.take_zero, List.take_nil, List.drop_succ_cons, List.drop_zero, List.length_cons, List.length_nil, List.reverse_cons, List.reverse_nil, List.head?_cons, List.map_cons, List.map_nil, List.sum_cons, List.sum_nil, true_and, and_true, List.getElem?_cons_zero, List.getElem?_cons_succ, Prod.eta, x_iast, x_bald, x_bast, x_last, x_alen, xup_s, xup_a1, xup_1a, xup_uu, nr_i, nr_l, nr_o, nr_a, ft_i, ft_l, ft_o, ft_a, Nat.reduceLT, i_cl0, i_cl1, i_n1, i_m1, List.set_cons_zero, List.set_cons_succ, Nat.reduceLeDiff, Nat.le_refl, Nat.zero_le, Nat.add_zero, x_no, x_ifnull, x_ifnonnull, x_acmp_eq, x_acmp_ne, x_swl, x_tsw, x_castC, true_or, or_true, nr_z, ft_z, nr_z0, nr_z1, ft_z0, ft_z1, nr_on, nr_an, ft_on, ft_an]
      have h8 := hr8 (by omega)
      refine g164 h3 _ (xoff_tr f3 f2) w3 ?_ (by rw [List.length_append, w2l, List.length_singleton]; omega)
      have jd : j = d - 1 := y
      rw [← hfin, List.append_assoc, List.append_assoc]
      have : W / 10 ^ j % 10 = W / 10 ^ (d - 1) := by
        rw [jd]
        apply Nat.mod_eq_of_lt
        rw [Nat.div_lt_iff_lt_mul (Nat.pow_pos (by decide)), ← Nat.pow_succ', Nat.succ_eq_add_one, show d - 1 + 1 = d by omega]
        exact hW
      unfold roL
      rw [this, if_pos (by omega), jd]
      rfl
theorem cM_X10_putDecimal (G : xG) (l : Launch) : xM G l yX10_putDecimal cX10_putDecimal 9 none r_X10_putDecimal C_X10_putDecimal := by
  refine xM_of (fun Q => b_X10_putDecimal_0 Q (xInv cn_X10_putDecimal (I_X10_putDecimal Q))) RX10 false (fun Q => s_X10_putDecimal_0 G l Q _ (LD119 G l Q)) (by decide) rfl (by decide) ?_
  rintro av ⟨h, S2⟩ Q ⟨x, f, d, ab, y, L, rfl, f0, f1, d1, d2, w, ex, re, hr, hQ⟩
  dsimp only at *
  refine ⟨Nat.le_of_ble_eq_true rfl, ?_⟩
  have bf : bF (f : Int) := ⟨by omega, by omega⟩
  have sg : (f : Int).sign = 1 := sgn_p (by omega)
  have na : (f : Int).natAbs = f := by omega
  have ni : decide (f = 9218868437227405312) = false := decide_eq_false (by omega)
  have p0 : fP f ≠ 0 := by have := fP_nz bf (by omega); rw [na] at this; exact this
  have pn := nb_mono_lt (fP_lt f)
  have fx := fX_rng f
  have pn1 := (nb_le (v := fP f) (by omega)).2
  obtain ⟨b, hb⟩ : ∃ b : Int, b = (nb (fP f) : Int) + fX f := ⟨_, rfl⟩
  have svf : sv (fX f) (fP f) 1 = fv f := sv_1 ..
  have x1 : p2 (b - 1) ≤ fv f := by
    have h1 := (nb_le (v := fP f) (by omega)).1
    have h2 := p2_len h1
    have : p2 (b - 1) = p2 ((nb (fP f) - 1 : Nat) : Int) * p2 (fX f) := by rw [← p2_add]; congr 1; omega
    rw [this]
    exact Rat.mul_le_mul_of_nonneg_right h2 (Rat.le_of_lt (p2_pos _))
  have x2 : fv f < p2 b := by
    have h2 := p2_ltn (nb_lt (fP f))
    have : p2 b = p2 (nb (fP f)) * p2 (fX f) := by rw [← p2_add]; congr 1
    rw [this]
    exact (Rat.mul_lt_mul_right (p2_pos _)).mpr h2
  obtain ⟨z, hz⟩ : ∃ z : Int, z = b * 30103 / 100000 := ⟨_, rfl⟩
  have zl : tn (z - 1) ≤ fv f ∧ fv f < tn (z + 1) := by
    rcases ilt_ge 1024 b with c | c
    · have g := fl_b (b := 1024) (by decide) (by decide)
      -- b above 1024 would be a float above the greatest
      have hi : fv f < p2 1024 := by
        have := fv_G
        rcases (show f = 9218868437227405311 ∨ f < 9218868437227405311 by omega) with q | q
        · rw [q]; exact this
        · have := fv_lt q (by omega); grind
      have lo := p2_le (show (1024 : Int) ≤ b - 1 by omega)
      exact absurd hi (by grind)
    · have g := fl_b (b := b) (by omega) c
      rw [← hz] at g
      constructor
      · exact Rat.le_trans g.2 x1
      · exact rt_ll x2 g.1
  have zb : -330 ≤ z ∧ z ≤ 330 := by omega
  have t18 : 10 ^ d ≤ 1000000000000000000 := Nat.le_trans (Nat.pow_le_pow_right (by decide) d2) (by decide)
  have td1 : 10 ^ (d - 1) ≤ 10 ^ d := Nat.pow_le_pow_right (by decide) (by omega)
  have tp : 0 < 10 ^ (d - 1) := Nat.pow_pos (by decide)
  -- the exponent P, and what is found at it
  have sc : ∀ P : Int, fv f * tn ((d : Int) - 1 - P) * tn (P - d + 1) = fv f := fun P => by
    rw [Rat.mul_assoc, ← tn_add, show ((d : Int) - 1 - P) + (P - d + 1) = 0 by omega, tn_z]
    show fv f * (10 : Rat) ^ (0 : Int) = _
    rw [Rat.zpow_zero, Rat.mul_one]
  have up : ∀ P : Int, fv f < tn (P + 1) → fv f * tn ((d : Int) - 1 - P) < ((10 ^ d : Nat) : Rat) := fun P h => by
    have := (Rat.mul_lt_mul_right (tn_pos ((d : Int) - 1 - P))).mpr h
    rw [← tn_add, show P + 1 + ((d : Int) - 1 - P) = (d : Int) by omega, tn_nat] at this
    exact this
  have c63 : ((10 ^ d : Nat) : Rat) < ((2 ^ 63 : Nat) : Rat) := Rat.natCast_lt_natCast.mpr (by omega)
  have whr : ∀ (P : Int) (W : Nat) (y : Bool), tn P ≤ fv f → fv f < tn (P + 1) → whS (fv f * tn ((d : Int) - 1 - P)) 0 W y → rdS (fv f) d P W ∧ (y = true ↔ (W : Rat) * tn (P - d + 1) < fv f) := by
    intro P W y hl hu ⟨w1, w2, w3⟩
    rw [p2_0, Rat.mul_one] at w1 w2 w3
    have u := tn_pos (P - d + 1)
    have a1 := Rat.mul_le_mul_of_nonneg_right w1 (Rat.le_of_lt u)
    have a2 := (Rat.mul_lt_mul_right u).mpr w2
    rw [sc P] at a1 a2
    have lo : 10 ^ (d - 1) ≤ W := by
      have e1 : tn P = ((10 ^ (d - 1) : Nat) : Rat) * tn (P - d + 1) := by rw [← tn_nat, ← tn_add]; congr 1; omega
      have := (tq_lt (a := 10 ^ (d - 1)) (b := W + 1) (P - d + 1)).mp (by rw [← e1]; exact Std.lt_of_le_of_lt hl a2)
      omega
    have hi : W < 10 ^ d := by
      have e2 : tn (P + 1) = ((10 ^ d : Nat) : Rat) * tn (P - d + 1) := by rw [← tn_nat, ← tn_add]; congr 1; omega
      exact (tq_lt (a := W) (b := 10 ^ d) (P - d + 1)).mp (by rw [← e2]; exact Std.lt_of_le_of_lt a1 hu)
    refine ⟨⟨lo, hi, a1, a2⟩, ?_⟩
    rw [w3]
    constructor
    · intro ne
      have : (W : Rat) < fv f * tn ((d : Int) - 1 - P) := by
        rcases Decidable.em ((W : Rat) < fv f * tn ((d : Int) - 1 - P)) with q | q
        · exact q
        · exact absurd (Rat.le_antisymm w1 (Rat.not_lt.mp q)) ne
      have := (Rat.mul_lt_mul_right u).mpr this
      rw [sc P] at this
      exact this
    · intro l e
      rw [e, sc P] at l
      exact Rat.lt_irrefl l
  have v18 : vp_in (nI d) 19 = True := eq_true (vp_in_nI (by omega) (by decide))
  have v17 : vp_in (nI (d - 1)) 19 = True := eq_true (vp_in_nI (by omega) (by decide))
  have xt := xt_10 (j := d) (by omega)
  have xt1 := xt_10 (j := d - 1) (by omega)
  have s1 : nI d - 1 = nI (d - 1) := pk_sub (b := 1) (by omega)
  generalize hK : xInv cn_X10_putDecimal (I_X10_putDecimal Q) = K
  have g91 : ∀ (P : Int) (W1 : Nat) (z3 : Value) h2 y2, -400 ≤ P → P ≤ 400 → W1 ≤ 10 ^ d → 10 ^ (d - 1) ≤ W1 → woL (fv f) d ab = roC d W1 P → xofX h2 h x → exR h2 x y2 → reE h2 (x + 11) → ∀ lv, xlk lv 0 = some (.ref (x + 39)) → xlk lv 3 = some (.int (nI d)) → xlk lv 5 = some (.int (iZ P)) → xlk lv 6 = some (.long (lN W1)) → b_X10_putDecimal_91 Q K lv [] (h2, S2) := by
    intro P W1 z3 h2 y2 hP1 hP2 hW1 hW0 hwo o2 ex2 re2 lv x0 x3 x5 x6
    have w2 := w.off o2.x (by omega)
    rw [hwo] at hQ
    have ql : lN W1 < lN (10 ^ d) ↔ W1 < 10 ^ d := lN_ltN (by omega) (by omega)
    have fin : ∀ (W : Nat) (Pf : Int), roC d W1 P = roL d W Pf → W < 10 ^ d → -999 ≤ Pf → Pf ≤ 999 → ∀ lv, xlk lv 0 = some (.ref (x + 39)) → xlk lv 3 = some (.int (nI d)) → xlk lv 5 = some (.int (iZ Pf)) → xlk lv 6 = some (.long (lN W)) → b_X10_putDecimal_114 Q K lv [] (h2, S2) := by
      intro W Pf hro hW hp1 hp2 lv x0 x3 x5 x6
      simp only [q_c, x_iload, x_lload, x_aload, q_istore, q_lstore, q_astore, q_astore2, x_iinc, q_iadd, q_isub, q_imul, q_iand, q_ior, q_ixor, q_ladd, q_lsub, q_lmul, q_land, q_lor, q_lxor, q_idiv, q_irem, q_ldiv, q_lrem, q_ineg, q_lneg, q_ishl, q_ishr, q_iushr, q_lshl, q_lshr, q_lushr, q_i2l, q_l2i, q_i2b, q_i2c, q_lcmp, q_if_eq, q_if_ne, q_if_lt, q_if_ge, q_if_gt, q_if_le, q_icmp_eq, q_icmp_ne, q_icmp_lt, q_icmp_ge, q_icmp_gt, q_icmp_le, q_dup, q_pop, q_dup_x1, q_dup2, x_iret, x_zret, x_lret, x_aret, x_vret, x_call, x_callv, x_calli, x_oinit, x_mmax, x_mmin, x_mabs, x_mmaxL, x_mminL, x_mabsL, lg_cmp_ge, lg_cmp_le, lg_cmp_gt, lg_cmp_lt, lg_cmp_eq, xlk, q_xs1, q_xs2, lv_args, Value.category, List.filter_cons, List.filter_nil, Nat.reduceAdd, Nat.reduceBEq, Nat.reduceEqDiff, Nat.reduceSub, Nat.sub_zero, beq_self_eq_true, Bool.not_true, Bool.not_false, Bool.and_true, Bool.and_false, Bool.true_and, Bool.false_and, reduceIte, reduceCtorEq, Bool.false_eq_true, Nat.one_ne_zero, Nat.zero_ne_one, Nat.zero_add, Option.toList_some, Option.toList_none, List.nil_append, List.cons_append, List.take_succ_cons, List.take_zero, List.take_nil, List.drop_succ_cons, List.drop_zero, List.length_cons, List.length_nil, List.reverse_cons, List.reverse_nil, List.head?_cons, List.map_cons, List.map_nil, List.sum_cons, List.sum_nil, true_and, and_true, List.getElem?_cons_zero, List.getElem?_cons_succ, Prod.eta, x_iast, x_bald, x_bast, x_last, x_alen, xup_s, xup_a1, xup_1a, xup_uu, nr_i, nr_l, nr_o, nr_a, ft_i, ft_l, ft_o, ft_a, Nat.reduceLT, i_cl0, i_cl1, i_n1, i_m1, List.set_cons_zero, List.set_cons_succ, Nat.reduceLeDiff, Nat.le_refl, Nat.zero_le, Nat.add_zero, x_no, x_ifnull, x_ifnonnull, x_acmp_eq, x_acmp_ne, x_swl, x_tsw, x_castC, true_or, or_true, nr_z, ft_z, nr_z0, nr_z1, ft_z0, ft_z1, nr_on, nr_an, ft_on, ft_an, b_X10_putDecimal_114, x3, s1]
      rw [← hK]
      refine xInv.mk d (x, d, Pf, W, d) ⟨?_, ?_, ?_, ?_, ?_, trivial⟩ ⟨rfl, by omega, d1, d2, by omega, hW, L, _, w2, by rw [if_pos rfl], by omega, fun _ => by omega, fun h3 f3 w3 => hQ h3 y2 (fun q c1 c2 => (f3 q c2).trans (o2 q c1)) (ex2.off f3 (by omega)) (re2.off f3 (by omega)) (by rw [hro]; exact w3) (by rw [hro]; exact roL_len4 d1 d2 (by omega))⟩
      · show xlk _ 0 = _; rw [q_xlk, if_neg (by decide), xlk_fil (fun v => rfl)]; exact x0
      · show xlk _ 3 = _; rw [q_xlk, if_neg (by decide), xlk_fil (fun v => rfl)]; exact x3
      · show xlk _ 5 = _; rw [q_xlk, if_neg (by decide), xlk_fil (fun v => rfl)]; exact x5
      · show xlk _ 6 = _; rw [q_xlk, if_neg (by decide), xlk_fil (fun v => rfl)]; exact x6
      · show some (Value.int (nI (d - 1))) = some (Value.int (iZ ((d : Int) - 1)))
        rw [← iZ_nat]
        congr 3
        omega
    unfold b_X10_putDecimal_91
    generalize b_X10_putDecimal_114 Q K = J at *
    simp only [q_c, x_iload, x_lload, x_aload, q_istore, q_lstore, q_astore, q_astore2, x_iinc, q_iadd, q_isub, q_imul, q_iand, q_ior, q_ixor, q_ladd, q_lsub, q_lmul, q_land, q_lor, q_lxor, q_idiv, q_irem, q_ldiv, q_lrem, q_ineg, q_lneg, q_ishl, q_ishr, q_iushr, q_lshl, q_lshr, q_lushr, q_i2l, q_l2i, q_i2b, q_i2c, q_lcmp, q_if_eq, q_if_ne, q_if_lt, q_if_ge, q_if_gt, q_if_le, q_icmp_eq, q_icmp_ne, q_icmp_lt, q_icmp_ge, q_icmp_gt, q_icmp_le, q_dup, q_pop, q_dup_x1, q_dup2, x_iret, x_zret, x_lret, x_aret, x_vret, x_call, x_callv, x_calli, x_oinit, x_mmax, x_mmin, x_mabs, x_mmaxL, x_mminL, x_mabsL, lg_cmp_ge, lg_cmp_le, lg_cmp_gt, lg_cmp_lt, lg_cmp_eq, xlk, q_xs1, q_xs2, lv_args, Value.category, List.filter_cons, List.filter_nil, Nat.reduceAdd, Nat.reduceBEq, Nat.reduceEqDiff, Nat.reduceSub, Nat.sub_zero, beq_self_eq_true, Bool.not_true, Bool.not_false, Bool.and_true, Bool.and_false, Bool.true_and, Bool.false_and, reduceIte, reduceCtorEq, Bool.false_eq_true, Nat.one_ne_zero, Nat.zero_ne_one, Nat.zero_add, Option.toList_some, Option.toList_none, List.nil_append, List.cons_append, List.take_succ_cons, List.take_zero, List.take_nil, List.drop_succ_cons, List.drop_zero, List.length_cons, List.length_nil, List.reverse_cons, List.reverse_nil, List.head?_cons, List.map_cons, List.map_nil, List.sum_cons, List.sum_nil, true_and, and_true, List.getElem?_cons_zero, List.getElem?_cons_succ, Prod.eta, x_iast, x_bald, x_bast, x_last, x_alen, xup_s, xup_a1, xup_1a, xup_uu, nr_i, nr_l, nr_o, nr_a, ft_i, ft_l, ft_o, ft_a, Nat.reduceLT, i_cl0, i_cl1, i_n1, i_m1, List.set_cons_zero, List.set_cons_succ, Nat.reduceLeDiff, Nat.le_refl, Nat.zero_le, Nat.add_zero, x_no, x_ifnull, x_ifnonnull, x_acmp_eq, x_acmp_ne, x_swl, x_tsw, x_castC, true_or, or_true, nr_z, ft_z, nr_z0, nr_z1, ft_z0, ft_z1, nr_on, nr_an, ft_on, ft_an, x6, x_kst]
    intro a ha hu
    simp only [q_c, x_iload, x_lload, x_aload, q_istore, q_lstore, q_astore, q_astore2, x_iinc, q_iadd, q_isub, q_imul, q_iand, q_ior, q_ixor, q_ladd, q_lsub, q_lmul, q_land, q_lor, q_lxor, q_idiv, q_irem, q_ldiv, q_lrem, q_ineg, q_lneg, q_ishl, q_ishr, q_iushr, q_lshl, q_lshr, q_lushr, q_i2l, q_l2i, q_i2b, q_i2c, q_lcmp, q_if_eq, q_if_ne, q_if_lt, q_if_ge, q_if_gt, q_if_le, q_icmp_eq, q_icmp_ne, q_icmp_lt, q_icmp_ge, q_icmp_gt, q_icmp_le, q_dup, q_pop, q_dup_x1, q_dup2, x_iret, x_zret, x_lret, x_aret, x_vret, x_call, x_callv, x_calli, x_oinit, x_mmax, x_mmin, x_mabs, x_mmaxL, x_mminL, x_mabsL, lg_cmp_ge, lg_cmp_le, lg_cmp_gt, lg_cmp_lt, lg_cmp_eq, xlk, q_xs1, q_xs2, lv_args, Value.category, List.filter_cons, List.filter_nil, Nat.reduceAdd, Nat.reduceBEq, Nat.reduceEqDiff, Nat.reduceSub, Nat.sub_zero, beq_self_eq_true, Bool.not_true, Bool.not_false, Bool.and_true, Bool.and_false, Bool.true_and, Bool.false_and, reduceIte, reduceCtorEq, Bool.false_eq_true, Nat.one_ne_zero, Nat.zero_ne_one, Nat.zero_add, Option.toList_some, Option.toList_none, List.nil_append, List.cons_append, List.take_succ_cons, List.take_zero, List.take_nil, List.drop_succ_cons, List.drop_zero, List.length_cons, List.length_nil, List.reverse_cons, List.reverse_nil, List.head?_cons, List.map_cons, List.map_nil, List.sum_cons, List.sum_nil, true_and, and_true, List.getElem?_cons_zero, List.getElem?_cons_succ, Prod.eta, x_iast, x_bald, x_bast, x_last, x_alen, xup_s, xup_a1, xup_1a, xup_uu, nr_i, nr_l, nr_o, nr_a, ft_i, ft_l, ft_o, ft_a, Nat.reduceLT, i_cl0, i_cl1, i_n1, i_m1, List.set_cons_zero, List.set_cons_succ, Nat.reduceLeDiff, Nat.le_refl, Nat.zero_le, Nat.add_zero, x_no, x_ifnull, x_ifnonnull, x_acmp_eq, x_acmp_ne, x_swl, x_tsw, x_castC, true_or, or_true, nr_z, ft_z, nr_z0, nr_z1, ft_z0, ft_z1, nr_on, nr_an, ft_on, ft_an, x_klald, x3, ha, v18, xt, ql]
    refine ⟨fun q => fin W1 P (by unfold roC; rw [if_neg (by omega)]) q (by omega) (by omega) lv x0 x3 x5 x6, fun q => ?_⟩
    intro a2 ha2 hu2
    simp only [q_c, x_iload, x_lload, x_aload, q_istore, q_lstore, q_astore, q_astore2, x_iinc, q_iadd, q_isub, q_imul, q_iand, q_ior, q_ixor, q_ladd, q_lsub, q_lmul, q_land, q_lor, q_lxor, q_idiv, q_irem, q_ldiv, q_lrem, q_ineg, q_lneg, q_ishl, q_ishr, q_iushr, q_lshl, q_lshr, q_lushr, q_i2l, q_l2i, q_i2b, q_i2c, q_lcmp, q_if_eq, q_if_ne, q_if_lt, q_if_ge, q_if_gt, q_if_le, q_icmp_eq, q_icmp_ne, q_icmp_lt, q_icmp_ge, q_icmp_gt, q_icmp_le, q_dup, q_pop, q_dup_x1, q_dup2, x_iret, x_zret, x_lret, x_aret, x_vret, x_call, x_callv, x_calli, x_oinit, x_mmax, x_mmin, x_mabs, x_mmaxL, x_mminL, x_mabsL, lg_cmp_ge, lg_cmp_le, lg_cmp_gt, lg_cmp_lt, lg_cmp_eq, xlk, q_xs1, q_xs2, lv_args, Value.category, List.filter_cons, List.filter_nil, Nat.reduceAdd, Nat.reduceBEq, Nat.reduceEqDiff, Nat.reduceSub, Nat.sub_zero, beq_self_eq_true, Bool.not_true, Bool.not_false, Bool.and_true, Bool.and_false, Bool.true_and, Bool.false_and, reduceIte, reduceCtorEq, Bool.false_eq_true, Nat.one_ne_zero, Nat.zero_ne_one, Nat.zero_add, Option.toList_some, Option.toList_none, List.nil_append, List.cons_append, List.take_succ_cons, List.take_zero, List.take_nil, List.drop_succ_cons, List.drop_zero, List.length_cons, List.length_nil, List.reverse_cons, List.reverse_nil, List.head?_cons, List.map_cons, List.map_nil, List.sum_cons, List.sum_nil, true_and, and_true, List.getElem?_cons_zero, List.getElem?_cons_succ, Prod.eta, x_iast, x_bald, x_bast, x_last, x_alen, xup_s, xup_a1, xup_1a, xup_uu, nr_i, nr_l, nr_o, nr_a, ft_i, ft_l, ft_o, ft_a, Nat.reduceLT, i_cl0, i_cl1, i_n1, i_m1, List.set_cons_zero, List.set_cons_succ, Nat.reduceLeDiff, Nat.le_refl, Nat.zero_le, Nat.add_zero, x_no, x_ifnull, x_ifnonnull, x_acmp_eq, x_acmp_ne, x_swl, x_tsw, x_castC, true_or, or_true, nr_z, ft_z, nr_z0, nr_z1, ft_z0, ft_z1, nr_on, nr_an, ft_on, ft_an, x_klald, x3, s1, ha2, v17, xt1]
    rw [xlk_fil2 x5 rfl]
    have e1 : iZ P + Int32.ofInt 1 = iZ (P + 1) := by rw [show Int32.ofInt 1 = iZ 1 from rfl, iZ_add]
    dsimp only
    rw [e1]
    have tm : 10 ^ (d - 1) < 10 ^ d := Nat.pow_lt_pow_right (by decide) (by omega)
    refine ⟨ha2, fin (10 ^ (d - 1)) (P + 1) (by unfold roC; rw [if_pos (by omega)]) tm (by omega) (by omega) _ ?_ ?_ ?_ ?_⟩
    · rw [q_xlk, if_neg (by decide), q_xlk, if_neg (by decide), xlk_fil (fun v => rfl), xlk_fil (fun v => rfl)]; exact x0
    · rw [q_xlk, if_neg (by decide), q_xlk, if_neg (by decide), xlk_fil (fun v => rfl), xlk_fil (fun v => rfl)]; exact x3
    · rw [q_xlk, if_pos rfl]
    · rw [q_xlk, if_neg (by decide), q_xlk, if_pos rfl]
  have g70 : ∀ (P : Int) (W : Nat) h2 y2, tn P ≤ fv f → fv f < tn (P + 1) → -400 ≤ P → P ≤ 400 → whS (fv f * tn ((d : Int) - 1 - P)) 0 W y2 → xofX h2 h x → exR h2 x y2 → reE h2 (x + 11) → ∀ lv, xlk lv 0 = some (.ref (x + 39)) → xlk lv 3 = some (.int (nI d)) → xlk lv 4 = some (.int (bI ab)) → xlk lv 5 = some (.int (iZ P)) → xlk lv 6 = some (.long (lN W)) → b_X10_putDecimal_70 Q K lv [] (h2, S2) := by
    intro P W h2 y2 hl hu hP1 hP2 wh o2 ex2 re2 lv x0 x3 x4 x5 x6
    obtain ⟨rd, fl⟩ := whr P W y2 hl hu wh
    have wo := woL_b (ab := ab) rd d1
    have w2 := w.off o2.x (by omega)
    have r1 := rd.1
    have r2 := rd.2.1
    have a1 : lN W + 1 = lN (W + 1) := lN_add W 1
    have g := g91
    unfold b_X10_putDecimal_70
    generalize b_X10_putDecimal_91 Q K = J at *
    simp only [q_c, x_iload, x_lload, x_aload, q_istore, q_lstore, q_astore, q_astore2, x_iinc, q_iadd, q_isub, q_imul, q_iand, q_ior, q_ixor, q_ladd, q_lsub, q_lmul, q_land, q_lor, q_lxor, q_idiv, q_irem, q_ldiv, q_lrem, q_ineg, q_lneg, q_ishl, q_ishr, q_iushr, q_lshl, q_lshr, q_lushr, q_i2l, q_l2i, q_i2b, q_i2c, q_lcmp, q_if_eq, q_if_ne, q_if_lt, q_if_ge, q_if_gt, q_if_le, q_icmp_eq, q_icmp_ne, q_icmp_lt, q_icmp_ge, q_icmp_gt, q_icmp_le, q_dup, q_pop, q_dup_x1, q_dup2, x_iret, x_zret, x_lret, x_aret, x_vret, x_call, x_callv, x_calli, x_oinit, x_mmax, x_mmin, x_mabs, x_mmaxL, x_mminL, x_mabsL, lg_cmp_ge, lg_cmp_le, lg_cmp_gt, lg_cmp_lt, lg_cmp_eq, xlk, q_xs1, q_xs2, lv_args, Value.category, List.filter_cons, List.filter_nil, Nat.reduceAdd, Nat.reduceBEq, Nat.reduceEqDiff, Nat.reduceSub, Nat.sub_zero, beq_self_eq_true, Bool.not_true, Bool.not_false, Bool.and_true, Bool.and_false, Bool.true_and, Bool.false_and, reduceIte, reduceCtorEq, Bool.false_eq_true, Nat.one_ne_zero, Nat.zero_ne_one, Nat.zero_add, Option.toList_some, Option.toList_none, List.nil_append, List.cons_append, List.take_succ_cons, List.take_zero, List.take_nil, List.drop_succ_cons, List.drop_zero, List.length_cons, List.length_nil, List.reverse_cons, List.reverse_nil, List.head?_cons, List.map_cons, List.map_nil, List.sum_cons, List.sum_nil, true_and, and_true, List.getElem?_cons_zero, List.getElem?_cons_succ, Prod.eta, x_iast, x_bald, x_bast, x_last, x_alen, xup_s, xup_a1, xup_1a, xup_uu, nr_i, nr_l, nr_o, nr_a, ft_i, ft_l, ft_o, ft_a, Nat.reduceLT, i_cl0, i_cl1, i_n1, i_m1, List.set_cons_zero, List.set_cons_succ, Nat.reduceLeDiff, Nat.le_refl, Nat.zero_le, Nat.add_zero, x_no, x_ifnull, x_ifnonnull, x_acmp_eq, x_acmp_ne, x_swl, x_tsw, x_castC, true_or, or_true, nr_z, ft_z, nr_z0, nr_z1, ft_z0, ft_z1, nr_on, nr_an, ft_on, ft_an, x0, x4, x6, bI_e0, w2.1.g2, exO.g0 ex2.1, exO.g1 ex2.1, exO.g2 ex2.1, exO.g3 ex2.1, exO.p3 ex2.1, exO.p3a ex2.1, exO.p3b ex2.1, a1]
    refine ⟨fun q => ?_, fun q => ⟨fun q2 => ?_, fun q2 => ?_⟩⟩
    · refine g P W .null h2 y2 hP1 hP2 (by omega) r1 ?_ o2 ex2 re2 lv x0 x3 x5 x6
      rw [wo, if_neg (by rw [q]; simp)]
    · refine g P W .null h2 y2 hP1 hP2 (by omega) r1 ?_ o2 ex2 re2 lv x0 x3 x5 x6
      rw [wo, if_neg (fun t => by have := fl.mpr t.2; rw [q2] at this; exact absurd this (by decide))]
    · refine g P (W + 1) .null h2 y2 hP1 hP2 (by omega) (by omega) ?_ o2 ex2 re2 _ ?_ ?_ ?_ ?_
      · rw [wo, if_pos ⟨eq_true_of_ne_false q, fl.mp (eq_true_of_ne_false q2)⟩]
      · rw [q_xlk, if_neg (by decide), xlk_fil (fun v => rfl)]; exact x0
      · rw [q_xlk, if_neg (by decide), xlk_fil (fun v => rfl)]; exact x3
      · rw [q_xlk, if_neg (by decide)]; exact xlk_fil2 x5 rfl
      · rw [q_xlk, if_pos rfl]
  have scl : ∀ (P : Int) h2 y2 (K' : xQ), fv f < tn (P + 1) → -340 ≤ P → P ≤ 340 → xofX h2 h x → exR h2 x y2 → reE h2 (x + 11) → (∀ h3 W y3, xofX h3 h x → exR h3 x y3 → reE h3 (x + 11) → whS (fv f * tn ((d : Int) - 1 - P)) 0 W y3 → K' (some (.long (lN W))) (h3, S2.1, 0, 0)) → rcw h2 x ∧ C_X10_scaled [.ref (x + 39), .long (lN f), .int (iZ ((d : Int) - 1 - P))] (h2, S2.1, 0, 0) K' := by
    intro P h2 y2 K' hu hp1 hp2 o2 ex2 re2 hK'
    have w2 := w.off o2.x (by omega)
    exact ⟨w2.rc, x, f, _, L, y2, rfl, f0, f1, by omega, Std.lt_trans (up P hu) c63, w2, ex2, re2, fun h3 W y3 o3 ex3 re3 wh => hK' h3 W y3 (fun q c => (o3 q c).trans (o2 q c)) ex3 re3 wh⟩
  have lvl : iZ ((nb (fP f) : Int) - nb 1 + fX f) + 1 = iZ b := by
    rw [show (1 : Int32) = iZ 1 from rfl, iZ_add, nb_1, hb]; congr 1; omega
  have mul : iZ b * 30103 = iZ (b * 30103) := by rw [show (30103 : Int32) = iZ 30103 from rfl, iZ_mul]
  have bb : -1074 ≤ b ∧ b ≤ 1025 := by omega
  have ez : nI (d - 1) - iZ z = iZ ((d : Int) - 1 - z) := by rw [← iZ_nat, iZ_sub]; congr 1; omega
  have ez1 : nI (d - 1) - iZ (z - 1) = iZ ((d : Int) - 1 - (z - 1)) := by rw [← iZ_nat, iZ_sub]; congr 1; omega
  have em : iZ z + Int32.ofInt (-1) = iZ (z - 1) := by rw [show Int32.ofInt (-1) = iZ (-1) from rfl, iZ_add]; congr 1
  unfold b_X10_putDecimal_0
  generalize b_X10_putDecimal_70 Q K = J at *
  simp only [q_c, x_iload, x_lload, x_aload, q_istore, q_lstore, q_astore, q_astore2, x_iinc, q_iadd, q_isub, q_imul, q_iand, q_ior, q_ixor, q_ladd, q_lsub, q_lmul, q_land, q_lor, q_lxor, q_idiv, q_irem, q_ldiv, q_lrem, q_ineg, q_lneg, q_ishl, q_ishr, q_iushr, q_lshl, q_lshr, q_lushr, q_i2l, q_l2i, q_i2b, q_i2c, q_lcmp, q_if_eq, q_if_ne, q_if_lt, q_if_ge, q_if_gt, q_if_le, q_icmp_eq, q_icmp_ne, q_icmp_lt, q_icmp_ge, q_icmp_gt, q_icmp_le, q_dup, q_pop, q_dup_x1, q_dup2, x_iret, x_zret, x_lret, x_aret, x_vret, x_call, x_callv, x_calli, x_oinit, x_mmax, x_mmin, x_mabs, x_mmaxL, x_mminL, x_mabsL, lg_cmp_ge, lg_cmp_le, lg_cmp_gt, lg_cmp_lt, lg_cmp_eq, xlk, q_xs1, q_xs2, lv_args, Value.category, List.filter_cons, List.filter_nil, Nat.reduceAdd, Nat.reduceBEq, Nat.reduceEqDiff, Nat.reduceSub, Nat.sub_zero, beq_self_eq_true, Bool.not_true, Bool.not_false, Bool.and_true, Bool.and_false, Bool.true_and, Bool.false_and, reduceIte, reduceCtorEq, Bool.false_eq_true, Nat.one_ne_zero, Nat.zero_ne_one, Nat.zero_add, Option.toList_some, Option.toList_none, List.nil_append, List.cons_append, List.take_succ_cons, List.take_zero, List.take_nil, List.drop_succ_cons, List.drop_zero, List.length_cons, List.length_nil, List.reverse_cons, List.reverse_nil, List.head?_cons, List.map_cons, List.map_nil, List.sum_cons, List.sum_nil, true_and, and_true, List.getElem?_cons_zero, List.getElem?_cons_succ, Prod.eta, x_iast, x_bald, x_bast, x_last, x_alen, xup_s, xup_a1, xup_1a, xup_uu, nr_i, nr_l, nr_o, nr_a, ft_i, ft_l, ft_o, ft_a, Nat.reduceLT, i_cl0, i_cl1, i_n1, i_m1, List.set_cons_zero, List.set_cons_succ, Nat.reduceLeDiff, Nat.le_refl, Nat.zero_le, Nat.add_zero, x_no, x_ifnull, x_ifnonnull, x_acmp_eq, x_acmp_ne, x_swl, x_tsw, x_castC, true_or, or_true, nr_z, ft_z, nr_z0, nr_z1, ft_z0, ft_z1, nr_on, nr_an, ft_on, ft_an, w.1.g1, w.1.g2]
  rw [← lZ_nat]
  refine kr_rank re bf fun h2 oA w2 => ?_
  rw [sg, na, ni] at w2
  have wo2 := w.off oA (by omega)
  have ex2 : exR h2 x y := ex.off oA (by omega)
  have oA' : xofX h2 h x := fun q c => oA q (by omega)
  simp only [q_c, x_iload, x_lload, x_aload, q_istore, q_lstore, q_astore, q_astore2, x_iinc, q_iadd, q_isub, q_imul, q_iand, q_ior, q_ixor, q_ladd, q_lsub, q_lmul, q_land, q_lor, q_lxor, q_idiv, q_irem, q_ldiv, q_lrem, q_ineg, q_lneg, q_ishl, q_ishr, q_iushr, q_lshl, q_lshr, q_lushr, q_i2l, q_l2i, q_i2b, q_i2c, q_lcmp, q_if_eq, q_if_ne, q_if_lt, q_if_ge, q_if_gt, q_if_le, q_icmp_eq, q_icmp_ne, q_icmp_lt, q_icmp_ge, q_icmp_gt, q_icmp_le, q_dup, q_pop, q_dup_x1, q_dup2, x_iret, x_zret, x_lret, x_aret, x_vret, x_call, x_callv, x_calli, x_oinit, x_mmax, x_mmin, x_mabs, x_mmaxL, x_mminL, x_mabsL, lg_cmp_ge, lg_cmp_le, lg_cmp_gt, lg_cmp_lt, lg_cmp_eq, xlk, q_xs1, q_xs2, lv_args, Value.category, List.filter_cons, List.filter_nil, Nat.reduceAdd, Nat.reduceBEq, Nat.reduceEqDiff, Nat.reduceSub, Nat.sub_zero, beq_self_eq_true, Bool.not_true, Bool.not_false, Bool.and_true, Bool.and_false, Bool.true_and, Bool.false_and, reduceIte, reduceCtorEq, Bool.false_eq_true, Nat.one_ne_zero, Nat.zero_ne_one, Nat.zero_add, Option.toList_some, Option.toList_none, List.nil_append, List.cons_append, List.take_succ_cons, List.take_zero, List.take_nil, List.drop_succ_cons, List.drop_zero, List.length_cons, List.length_nil, List.reverse_cons, List.reverse_nil, List.head?_cons, List.map_cons, List.map_nil, List.sum_cons, List.sum_nil, true_and, and_true, List.getElem?_cons_zero, List.getElem?_cons_succ, Prod.eta, x_iast, x_bald, x_bast, x_last, x_alen, xup_s, xup_a1, xup_1a, xup_uu, nr_i, nr_l, nr_o, nr_a, ft_i, ft_l, ft_o, ft_a, Nat.reduceLT, i_cl0, i_cl1, i_n1, i_m1, List.set_cons_zero, List.set_cons_succ, Nat.reduceLeDiff, Nat.le_refl, Nat.zero_le, Nat.add_zero, x_no, x_ifnull, x_ifnonnull, x_acmp_eq, x_acmp_ne, x_swl, x_tsw, x_castC, true_or, or_true, nr_z, ft_z, nr_z0, nr_z1, ft_z0, ft_z1, nr_on, nr_an, ft_on, ft_an, wo2.1.g1, wo2.1.g2]
  refine ⟨w2.rc, x + 11, 1, fX f, false, false, fP f, 1, rfl, w2, ?_⟩
  simp only [q_c, x_iload, x_lload, x_aload, q_istore, q_lstore, q_astore, q_astore2, x_iinc, q_iadd, q_isub, q_imul, q_iand, q_ior, q_ixor, q_ladd, q_lsub, q_lmul, q_land, q_lor, q_lxor, q_idiv, q_irem, q_ldiv, q_lrem, q_ineg, q_lneg, q_ishl, q_ishr, q_iushr, q_lshl, q_lshr, q_lushr, q_i2l, q_l2i, q_i2b, q_i2c, q_lcmp, q_if_eq, q_if_ne, q_if_lt, q_if_ge, q_if_gt, q_if_le, q_icmp_eq, q_icmp_ne, q_icmp_lt, q_icmp_ge, q_icmp_gt, q_icmp_le, q_dup, q_pop, q_dup_x1, q_dup2, x_iret, x_zret, x_lret, x_aret, x_vret, x_call, x_callv, x_calli, x_oinit, x_mmax, x_mmin, x_mabs, x_mmaxL, x_mminL, x_mabsL, lg_cmp_ge, lg_cmp_le, lg_cmp_gt, lg_cmp_lt, lg_cmp_eq, xlk, q_xs1, q_xs2, lv_args, Value.category, List.filter_cons, List.filter_nil, Nat.reduceAdd, Nat.reduceBEq, Nat.reduceEqDiff, Nat.reduceSub, Nat.sub_zero, beq_self_eq_true, Bool.not_true, Bool.not_false, Bool.and_true, Bool.and_false, Bool.true_and, Bool.false_and, reduceIte, reduceCtorEq, Bool.false_eq_true, Nat.one_ne_zero, Nat.zero_ne_one, Nat.zero_add, Option.toList_some, Option.toList_none, List.nil_append, List.cons_append, List.take_succ_cons, List.take_zero, List.take_nil, List.drop_succ_cons, List.drop_zero, List.length_cons, List.length_nil, List.reverse_cons, List.reverse_nil, List.head?_cons, List.map_cons, List.map_nil, List.sum_cons, List.sum_nil, true_and, and_true, List.getElem?_cons_zero, List.getElem?_cons_succ, Prod.eta, x_iast, x_bald, x_bast, x_last, x_alen, xup_s, xup_a1, xup_1a, xup_uu, nr_i, nr_l, nr_o, nr_a, ft_i, ft_l, ft_o, ft_a, Nat.reduceLT, i_cl0, i_cl1, i_n1, i_m1, List.set_cons_zero, List.set_cons_succ, Nat.reduceLeDiff, Nat.le_refl, Nat.zero_le, Nat.add_zero, x_no, x_ifnull, x_ifnonnull, x_acmp_eq, x_acmp_ne, x_swl, x_tsw, x_castC, true_or, or_true, nr_z, ft_z, nr_z0, nr_z1, ft_z0, ft_z1, nr_on, nr_an, ft_on, ft_an, lvl, mul]
  refine ⟨b * 30103, rfl, by omega, ?_⟩
  rw [← hz]
  simp only [q_c, x_iload, x_lload, x_aload, q_istore, q_lstore, q_astore, q_astore2, x_iinc, q_iadd, q_isub, q_imul, q_iand, q_ior, q_ixor, q_ladd, q_lsub, q_lmul, q_land, q_lor, q_lxor, q_idiv, q_irem, q_ldiv, q_lrem, q_ineg, q_lneg, q_ishl, q_ishr, q_iushr, q_lshl, q_lshr, q_lushr, q_i2l, q_l2i, q_i2b, q_i2c, q_lcmp, q_if_eq, q_if_ne, q_if_lt, q_if_ge, q_if_gt, q_if_le, q_icmp_eq, q_icmp_ne, q_icmp_lt, q_icmp_ge, q_icmp_gt, q_icmp_le, q_dup, q_pop, q_dup_x1, q_dup2, x_iret, x_zret, x_lret, x_aret, x_vret, x_call, x_callv, x_calli, x_oinit, x_mmax, x_mmin, x_mabs, x_mmaxL, x_mminL, x_mabsL, lg_cmp_ge, lg_cmp_le, lg_cmp_gt, lg_cmp_lt, lg_cmp_eq, xlk, q_xs1, q_xs2, lv_args, Value.category, List.filter_cons, List.filter_nil, Nat.reduceAdd, Nat.reduceBEq, Nat.reduceEqDiff, Nat.reduceSub, Nat.sub_zero, beq_self_eq_true, Bool.not_true, Bool.not_false, Bool.and_true, Bool.and_false, Bool.true_and, Bool.false_and, reduceIte, reduceCtorEq, Bool.false_eq_true, Nat.one_ne_zero, Nat.zero_ne_one, Nat.zero_add, Option.toList_some, Option.toList_none, List.nil_append, List.cons_append, List.take_succ_cons, List.take_zero, List.take_nil, List.drop_succ_cons, List.drop_zero, List.length_cons, List.length_nil, List.reverse_cons, List.reverse_nil, List.head?_cons, List.map_cons, List.map_nil, List.sum_cons, List.sum_nil, true_and, and_true, List.getElem?_cons_zero, List.getElem?_cons_succ, Prod.eta, x_iast, x_bald, x_bast, x_last, x_alen, xup_s, xup_a1, xup_1a, xup_uu, nr_i, nr_l, nr_o, nr_a, ft_i, ft_l, ft_o, ft_a, Nat.reduceLT, i_cl0, i_cl1, i_n1, i_m1, List.set_cons_zero, List.set_cons_succ, Nat.reduceLeDiff, Nat.le_refl, Nat.zero_le, Nat.add_zero, x_no, x_ifnull, x_ifnonnull, x_acmp_eq, x_acmp_ne, x_swl, x_tsw, x_castC, true_or, or_true, nr_z, ft_z, nr_z0, nr_z1, ft_z0, ft_z1, nr_on, nr_an, ft_on, ft_an, s1, ez, lZ_nat]
  refine scl z h2 y _ zl.2 (by omega) (by omega) oA' ex2 w2.E fun h3 W y3 o3 ex3 re3 wh => ?_
  have W63 : W < 2 ^ 63 := by
    have := wh.1
    rw [p2_0, Rat.mul_one] at this
    exact Rat.natCast_lt_natCast.mp (Std.lt_of_le_of_lt this (Std.lt_trans (up z zl.2) c63))
  have qg : lN (10 ^ (d - 1)) ≤ lN W ↔ 10 ^ (d - 1) ≤ W := pk_lLE (by omega) (by omega)
  simp only [q_c, x_iload, x_lload, x_aload, q_istore, q_lstore, q_astore, q_astore2, x_iinc, q_iadd, q_isub, q_imul, q_iand, q_ior, q_ixor, q_ladd, q_lsub, q_lmul, q_land, q_lor, q_lxor, q_idiv, q_irem, q_ldiv, q_lrem, q_ineg, q_lneg, q_ishl, q_ishr, q_iushr, q_lshl, q_lshr, q_lushr, q_i2l, q_l2i, q_i2b, q_i2c, q_lcmp, q_if_eq, q_if_ne, q_if_lt, q_if_ge, q_if_gt, q_if_le, q_icmp_eq, q_icmp_ne, q_icmp_lt, q_icmp_ge, q_icmp_gt, q_icmp_le, q_dup, q_pop, q_dup_x1, q_dup2, x_iret, x_zret, x_lret, x_aret, x_vret, x_call, x_callv, x_calli, x_oinit, x_mmax, x_mmin, x_mabs, x_mmaxL, x_mminL, x_mabsL, lg_cmp_ge, lg_cmp_le, lg_cmp_gt, lg_cmp_lt, lg_cmp_eq, xlk, q_xs1, q_xs2, lv_args, Value.category, List.filter_cons, List.filter_nil, Nat.reduceAdd, Nat.reduceBEq, Nat.reduceEqDiff, Nat.reduceSub, Nat.sub_zero, beq_self_eq_true, Bool.not_true, Bool.not_false, Bool.and_true, Bool.and_false, Bool.true_and, Bool.false_and, reduceIte, reduceCtorEq, Bool.false_eq_true, Nat.one_ne_zero, Nat.zero_ne_one, Nat.zero_add, Option.toList_some, Option.toList_none, List.nil_append, List.cons_append, List.take_succ_cons, List.take_zero, List.take_nil, List.drop_succ_cons, List.drop_zero, List.length_cons, List.length_nil, List.reverse_cons, List.reverse_nil, List.head?_cons, List.map_cons, List.map_nil, List.sum_cons, List.sum_nil, true_and, and_true, List.getElem?_cons_zero, List.getElem?_cons_succ, Prod.eta, x_iast, x_bald, x_bast, x_last, x_alen, xup_s, xup_a1, xup_1a, xup_uu, nr_i, nr_l, nr_o, nr_a, ft_i, ft_l, ft_o, ft_a, Nat.reduceLT, i_cl0, i_cl1, i_n1, i_m1, List.set_cons_zero, List.set_cons_succ, Nat.reduceLeDiff, Nat.le_refl, Nat.zero_le, Nat.add_zero, x_no, x_ifnull, x_ifnonnull, x_acmp_eq, x_acmp_ne, x_swl, x_tsw, x_castC, true_or, or_true, nr_z, ft_z, nr_z0, nr_z1, ft_z0, ft_z1, nr_on, nr_an, ft_on, ft_an, x_kst]
  intro a ha hu
  simp only [q_c, x_iload, x_lload, x_aload, q_istore, q_lstore, q_astore, q_astore2, x_iinc, q_iadd, q_isub, q_imul, q_iand, q_ior, q_ixor, q_ladd, q_lsub, q_lmul, q_land, q_lor, q_lxor, q_idiv, q_irem, q_ldiv, q_lrem, q_ineg, q_lneg, q_ishl, q_ishr, q_iushr, q_lshl, q_lshr, q_lushr, q_i2l, q_l2i, q_i2b, q_i2c, q_lcmp, q_if_eq, q_if_ne, q_if_lt, q_if_ge, q_if_gt, q_if_le, q_icmp_eq, q_icmp_ne, q_icmp_lt, q_icmp_ge, q_icmp_gt, q_icmp_le, q_dup, q_pop, q_dup_x1, q_dup2, x_iret, x_zret, x_lret, x_aret, x_vret, x_call, x_callv, x_calli, x_oinit, x_mmax, x_mmin, x_mabs, x_mmaxL, x_mminL, x_mabsL, lg_cmp_ge, lg_cmp_le, lg_cmp_gt, lg_cmp_lt, lg_cmp_eq, xlk, q_xs1, q_xs2, lv_args, Value.category, List.filter_cons, List.filter_nil, Nat.reduceAdd, Nat.reduceBEq, Nat.reduceEqDiff, Nat.reduceSub, Nat.sub_zero, beq_self_eq_true, Bool.not_true, Bool.not_false, Bool.and_true, Bool.and_false, Bool.true_and, Bool.false_and, reduceIte, reduceCtorEq, Bool.false_eq_true, Nat.one_ne_zero, Nat.zero_ne_one, Nat.zero_add, Option.toList_some, Option.toList_none, List.nil_append, List.cons_append, List.take_succ_cons, List.take_zero, List.take_nil, List.drop_succ_cons, List.drop_zero, List.length_cons, List.length_nil, List.reverse_cons, List.reverse_nil, List.head?_cons, List.map_cons, List.map_nil, List.sum_cons, List.sum_nil, true_and, and_true, List.getElem?_cons_zero, List.getElem?_cons_succ, Prod.eta, x_iast, x_bald, x_bast, x_last, x_alen, xup_s, xup_a1, xup_1a, xup_uu, nr_i, nr_l, nr_o, nr_a, ft_i, ft_l, ft_o, ft_a, Nat.reduceLT, i_cl0, i_cl1, i_n1, i_m1, List.set_cons_zero, List.set_cons_succ, Nat.reduceLeDiff, Nat.le_refl, Nat.zero_le, Nat.add_zero, x_no, x_ifnull, x_ifnonnull, x_acmp_eq, x_acmp_ne, x_swl, x_tsw, x_castC, true_or, or_true, nr_z, ft_z, nr_z0, nr_z1, ft_z0, ft_z1, nr_on, nr_an, ft_on, ft_an, x_klald, s1, ha, v17, xt1, qg, em, ez1]
  obtain ⟨w1, w2', w3⟩ := id wh
  rw [p2_0, Rat.mul_one] at w1 w2'
  have u := tn_pos (z - d + 1)
  have e1 : tn z = ((10 ^ (d - 1) : Nat) : Rat) * tn (z - d + 1) := by rw [← tn_nat, ← tn_add]; congr 1; omega
  refine ⟨fun q => g70 z W h3 y3 ?_ zl.2 (by omega) (by omega) wh o3 ex3 re3 _ rfl rfl rfl rfl rfl, fun q => ?_⟩
  · have a1 := Rat.mul_le_mul_of_nonneg_right w1 (Rat.le_of_lt u)
    rw [sc z] at a1
    rw [e1]
    exact Rat.le_trans ((tq_le _).mpr q) a1
  · have fz : fv f < tn z := by
      have a2 := (Rat.mul_lt_mul_right u).mpr w2'
      rw [sc z] at a2
      rw [e1]
      exact rt_ll a2 ((tq_le _).mpr (by omega))
    have e2 : z - 1 + 1 = z := by omega
    refine scl (z - 1) h3 y3 _ (by rw [e2]; exact fz) (by omega) (by omega) o3 ex3 re3 fun h4 W4 y4 o4 ex4 re4 wh4 => ?_
    try simp only [q_c, x_iload, x_lload, x_aload, q_istore, q_lstore, q_astore, q_astore2, x_iinc, q_iadd, q_isub, q_imul, q_iand, q_ior, q_ixor, q_ladd, q_lsub, q_lmul, q_land, q_lor, q_lxor, q_idiv, q_irem, q_ldiv, q_lrem, q_ineg, q_lneg, q_ishl, q_ishr, q_iushr, q_lshl, q_lshr, q_lushr, q_i2l, q_l2i, q_i2b, q_i2c, q_lcmp, q_if_eq, q_if_ne, q_if_lt, q_if_ge, q_if_gt, q_if_le, q_icmp_eq, q_icmp_ne, q_icmp_lt, q_icmp_ge, q_icmp_gt, q_icmp_le, q_dup, q_pop, q_dup_x1, q_dup2, x_iret, x_zret, x_lret, x_aret, x_vret, x_call, x_callv, x_calli, x_oinit, x_mmax, x_mmin, x_mabs, x_mmaxL, x_mminL, x_mabsL, lg_cmp_ge, lg_cmp_le, lg_cmp_gt, lg_cmp_lt, lg_cmp_eq, xlk, q_xs1, q_xs2, lv_args, Value.category, List.filter_cons, List.filter_nil, Nat.reduceAdd, Nat.reduceBEq, Nat.reduceEqDiff, Nat.reduceSub, Nat.sub_zero, beq_self_eq_true, Bool.not_true, Bool.not_false, Bool.and_true, Bool.and_false, Bool.true_and, Bool.false_and, reduceIte, reduceCtorEq, Bool.false_eq_true, Nat.one_ne_zero, Nat.zero_ne_one, Nat.zero_add, Option.toList_some, Option.toList_none, List.nil_append, List.cons_append, List.take_succ_cons, List.take_zero, List.take_nil, List.drop_succ_cons, List.drop_zero, List.length_cons, List.length_nil, List.reverse_cons, List.reverse_nil, List.head?_cons, List.map_cons, List.map_nil, List.sum_cons, List.sum_nil, true_and, and_true, List.getElem?_cons_zero, List.getElem?_cons_succ, Prod.eta, x_iast, x_bald, x_bast, x_last, x_alen, xup_s, xup_a1, xup_1a, xup_uu, nr_i, nr_l, nr_o, nr_a, ft_i, ft_l, ft_o, ft_a, Nat.reduceLT, i_cl0, i_cl1, i_n1, i_m1, List.set_cons_zero, List.set_cons_succ, Nat.reduceLeDiff, Nat.le_refl, Nat.zero_le, Nat.add_zero, x_no, x_ifnull, x_ifnonnull, x_acmp_eq, x_acmp_ne, x_swl, x_tsw, x_castC, true_or, or_true, nr_z, ft_z, nr_z0, nr_z1, ft_z0, ft_z1, nr_on, nr_an, ft_on, ft_an]
    exact g70 (z - 1) W4 h4 y4 zl.1 (by rw [e2]; exact fz) (by omega) (by omega) wh4 o4 ex4 re4 _ rfl rfl rfl rfl rfl
