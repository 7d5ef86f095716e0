theorem off1 {h : xH} {r : Nat} {c : xE} : xoff (xup h r c) h r (r + 1) := xoff_up xoff_rf (Nat.le_refl r) (Nat.lt_succ_self r)
/-- the two Bigs of a Num are set, then its e: what is behind a prefix that has written below -/
theorem dX13_set_0 : decode cX13_set 0 = .ok (.aload_n 0, 1) := by decide +kernel
theorem dX13_set_1 : decode cX13_set 1 = .ok (.lload_n 1, 1) := by decide +kernel
theorem dX13_set_2 : decode cX13_set 2 = .ok (.lconst 0, 1) := by decide +kernel
theorem dX13_set_3 : decode cX13_set 3 = .ok (.lcmp, 1) := by decide +kernel
theorem dX13_set_4 : decode cX13_set 4 = .ok (.ifCond .ge 7, 3) := by decide +kernel
theorem dX13_set_7 : decode cX13_set 7 = .ok (.iconst 1, 1) := by decide +kernel
theorem dX13_set_8 : decode cX13_set 8 = .ok (.goto 4, 3) := by decide +kernel
theorem dX13_set_11 : decode cX13_set 11 = .ok (.iconst 0, 1) := by decide +kernel
theorem dX13_set_12 : decode cX13_set 12 = .ok (.putfield 19, 3) := by decide +kernel
theorem dX13_set_15 : decode cX13_set 15 = .ok (.aload_n 0, 1) := by decide +kernel
theorem dX13_set_16 : decode cX13_set 16 = .ok (.getfield 10, 3) := by decide +kernel
theorem dX13_set_19 : decode cX13_set 19 = .ok (.lload_n 1, 1) := by decide +kernel
theorem dX13_set_20 : decode cX13_set 20 = .ok (.lconst 0, 1) := by decide +kernel
theorem dX13_set_21 : decode cX13_set 21 = .ok (.lcmp, 1) := by decide +kernel
theorem dX13_set_22 : decode cX13_set 22 = .ok (.ifCond .ge 8, 3) := by decide +kernel
theorem dX13_set_25 : decode cX13_set 25 = .ok (.lload_n 1, 1) := by decide +kernel
theorem dX13_set_26 : decode cX13_set 26 = .ok (.lneg, 1) := by decide +kernel
theorem dX13_set_27 : decode cX13_set 27 = .ok (.goto 4, 3) := by decide +kernel
theorem dX13_set_30 : decode cX13_set 30 = .ok (.lload_n 1, 1) := by decide +kernel
theorem dX13_set_31 : decode cX13_set 31 = .ok (.invokevirtual 23, 3) := by decide +kernel
theorem dX13_set_34 : decode cX13_set 34 = .ok (.aload_n 0, 1) := by decide +kernel
theorem dX13_set_35 : decode cX13_set 35 = .ok (.getfield 16, 3) := by decide +kernel
theorem dX13_set_38 : decode cX13_set 38 = .ok (.lconst 1, 1) := by decide +kernel
theorem dX13_set_39 : decode cX13_set 39 = .ok (.invokevirtual 23, 3) := by decide +kernel
theorem dX13_set_42 : decode cX13_set 42 = .ok (.aload_n 0, 1) := by decide +kernel
theorem dX13_set_43 : decode cX13_set 43 = .ok (.iconst 0, 1) := by decide +kernel
theorem dX13_set_44 : decode cX13_set 44 = .ok (.putfield 27, 3) := by decide +kernel
theorem dX13_set_47 : decode cX13_set 47 = .ok (.return_, 1) := by decide +kernel
abbrev r_X13_set : Room := { frames := 1, cells := 0, slots := 0, locals := 24 }
abbrev m_X13_set : xMd := (cX13_set, RX13, 3, none, false, r_X13_set)
def b_X13_set_31 (Q : xQ) : xK := x_callv 11 C_X12_set 2 0 0 <| x_aload 0 <| x_get 12 2 <| x_c (.long 1) <| x_callv 11 C_X12_set 2 0 0 <| x_aload 0 <| x_c (.int 0) <| x_put 12 3 .int <| x_vret Q
def b_X13_set_12 (Q : xQ) : xK := x_put 12 0 .boolean <| x_aload 0 <| x_get 12 1 <| x_lload 1 <| x_c (.long 0) <| x_lcmp <| x_if_ge (x_lload 1 <| (b_X13_set_31 Q)) <| x_lload 1 <| x_lneg <| (b_X13_set_31 Q)
def b_X13_set_0 (Q : xQ) : xK := x_aload 0 <| x_lload 1 <| x_c (.long 0) <| x_lcmp <| x_if_ge (x_c (.int 0) <| (b_X13_set_12 Q)) <| x_c (.int 1) <| (b_X13_set_12 Q)
theorem s_X13_set_31 (G : xG) (l : Launch) (Q : xQ) : xW G l m_X13_set xX0 (xPm G Q r_X13_set) 31 (b_X13_set_31 Q) := xo_callV (pc := 31) (np := 1) (ci := 11) rfl (cM_X12_set G l) dX13_set_31 kw1393 kw1390 kw1391 kw1392 kw14 (by decide +kernel) (by decide) <| xo_aload_n (pc := 34) (i := 0) dX13_set_34 rfl <| xo_get (pc := 35) (ci := 12) (i := 2) rfl ok12 (by decide) dX13_set_35 kw1189 <| xo_lconst (pc := 38) dX13_set_38 (by decide) <| xo_callV (pc := 39) (np := 1) (ci := 11) rfl (cM_X12_set G l) dX13_set_39 kw1393 kw1390 kw1391 kw1392 kw14 (by decide +kernel) (by decide) <| xo_aload_n (pc := 42) (i := 0) dX13_set_42 rfl <| xo_iconst (pc := 43) dX13_set_43 (by decide) <| xo_put (pc := 44) (ci := 12) (i := 3) rfl ok12 (by decide) rfl rfl dX13_set_44 kw1191 <| xo_vret (pc := 47) rfl dX13_set_47
theorem s_X13_set_12 (G : xG) (l : Launch) (Q : xQ) : xW G l m_X13_set xX0 (xPm G Q r_X13_set) 12 (b_X13_set_12 Q) := xo_put (pc := 12) (ci := 12) (i := 0) rfl ok12 (by decide) rfl rfl dX13_set_12 kw1184 <| xo_aload_n (pc := 15) (i := 0) dX13_set_15 rfl <| xo_get (pc := 16) (ci := 12) (i := 1) rfl ok12 (by decide) dX13_set_16 kw1186 <| xo_lload_n (pc := 19) (i := 1) dX13_set_19 rfl <| xo_lconst (pc := 20) dX13_set_20 (by decide) <| xo_lcmp (pc := 21) dX13_set_21 <| xo_if_ge (pc := 22) (tgt := 30) dX13_set_22 (by decide) (xo_lload_n (pc := 30) (i := 1) dX13_set_30 rfl <| (s_X13_set_31 G l Q)) <| xo_lload_n (pc := 25) (i := 1) dX13_set_25 rfl <| xo_lneg (pc := 26) dX13_set_26 <| xo_goto (pc := 27) (tgt := 31) dX13_set_27 (by decide) <| (s_X13_set_31 G l Q)
theorem s_X13_set_0 (G : xG) (l : Launch) (Q : xQ) : xW G l m_X13_set xX0 (xPm G Q r_X13_set) 0 (b_X13_set_0 Q) := xo_aload_n (pc := 0) (i := 0) dX13_set_0 rfl <| xo_lload_n (pc := 1) (i := 1) dX13_set_1 rfl <| xo_lconst (pc := 2) dX13_set_2 (by decide) <| xo_lcmp (pc := 3) dX13_set_3 <| xo_if_ge (pc := 4) (tgt := 11) dX13_set_4 (by decide) (xo_iconst (pc := 11) dX13_set_11 (by decide) <| (s_X13_set_12 G l Q)) <| xo_iconst (pc := 7) dX13_set_7 (by decide) <| xo_goto (pc := 8) (tgt := 12) dX13_set_8 (by decide) <| (s_X13_set_12 G l Q)

def C_X13_set : xC := fun av S Q => ∃ (r v : Nat) (c : Bool) (p' q' : Nat) (e' : Int), av = [.ref r, .long (lN v)] ∧ v < 2 ^ 63 ∧ nuR S.1 r c p' q' e' ∧ ∀ h', xoff h' S.1 r (r + 5) → nuR h' r false v 1 0 → Q none (h', S.2)
theorem cM_X13_set (G : xG) (l : Launch) : xM G l yX13_set cX13_set 3 none r_X13_set C_X13_set := by
  refine xM_of (fun Q => b_X13_set_0 Q) RX13 false (s_X13_set_0 G l) (by decide) rfl (by decide) ?_
  rintro av S Q ⟨r, v, c, p', q', e', rfl, hv, ⟨h1, hp', hq', he'⟩, hQ⟩
  refine ⟨Nat.le_of_ble_eq_true rfl, ?_⟩
  have e0 : ((0 : Int64) ≤ lN v) = True := by simp [show (0 : Int64) ≤ lN v ↔ 0 ≤ v from pk_lLE (a := 0) (by decide) hv]
  have nz : narrow .boolean (.int 0) = .int 0 := rfl
  have fz : fits .boolean (.int 0) = true := rfl
  simp only [x_c, x_iload, x_lload, x_aload, x_istore, x_lstore, x_astore, x_iinc, x_iadd, x_isub, x_imul, x_iand, x_ior, x_ixor, x_ladd, x_lsub, x_lmul, x_land, x_lor, x_lxor, x_idiv, x_irem, x_ldiv, x_lrem, x_ineg, x_lneg, x_ishl, x_ishr, x_iushr, x_lshl, x_lshr, x_lushr, x_i2l, x_l2i, x_i2b, x_i2c, x_lcmp, x_if_eq, x_if_ne, x_if_lt, x_if_ge, x_if_gt, x_if_le, x_icmp_eq, x_icmp_ne, x_icmp_lt, x_icmp_ge, x_icmp_gt, x_icmp_le, x_dup, x_pop, x_dup_x1, x_dup2, x_iret, x_zret, x_lret, x_aret, x_vret, x_call, x_callv, x_calli, x_oinit, x_mmax, x_mmin, x_mabs, x_mmaxL, x_mminL, x_mabsL, lg_cmp_ge, lg_cmp_le, lg_cmp_gt, lg_cmp_lt, lg_cmp_eq, xlk, xs1, xs2, lv_args, Value.category, List.filter_cons, List.filter_nil, Nat.reduceAdd, Nat.reduceBEq, Nat.reduceEqDiff, Nat.reduceSub, Nat.sub_zero, beq_self_eq_true, Bool.not_true, Bool.not_false, Bool.and_true, Bool.and_false, Bool.true_and, Bool.false_and, reduceIte, reduceCtorEq, Bool.false_eq_true, Nat.one_ne_zero, Nat.zero_ne_one, Nat.zero_add, Option.toList_some, Option.toList_none, List.nil_append, List.cons_append, List.take_succ_cons, List.take_zero, List.take_nil, List.drop_succ_cons, List.drop_zero, List.length_cons, List.length_nil, List.reverse_cons, List.reverse_nil, List.head?_cons, List.map_cons, List.map_nil, List.sum_cons, List.sum_nil, true_and, and_true, List.getElem?_cons_zero, List.getElem?_cons_succ, Prod.eta, x_get, x_put, x_iald, x_iast, x_bald, x_bast, x_lald, x_last, x_alen, xup_s, xup_a1, xup_1a, xup_uu, nr_i, nr_l, nr_o, nr_a, ft_i, ft_l, ft_o, ft_a, Nat.reduceLT, i_cl0, i_cl1, i_n1, i_m1, List.set_cons_zero, List.set_cons_succ, Nat.reduceLeDiff, Nat.le_refl, Nat.zero_le, Nat.add_zero, b_X13_set_0, b_X13_set_12, b_X13_set_31, h1, e0, nz, fz]
  refine ⟨fun _ => ⟨fun _ => ?_, fun z => absurd trivial z⟩, fun z => absurd trivial z⟩
  generalize hA : xup S.1 r (.inr (12, [.int 0, .ref (r + 1), .ref (r + 3), .int (iZ e')])) = hh
  have oA : xoff hh S.1 r (r + 1) := by rw [← hA]; exact off1
  have hr : hh r = some (.inr (12, [.int 0, .ref (r + 1), .ref (r + 3), .int (iZ e')])) := by rw [← hA, xup_s]
  obtain ⟨fs1, b1⟩ := (hp'.off oA (by omega)).obj
  obtain ⟨x1, n1, r1⟩ := (hp'.off oA (by omega)).R
  have q1 := hq'.off oA (by omega)
  refine ⟨⟨_, _, rfl, b1⟩, r + 1, x1, n1, v, rfl, by omega, r1, fun h2 oB pB => ?_⟩
  have hr2 := (oB r (by omega)).trans hr
  have q1 := q1.off oB (by omega)
  simp only [x_c, x_iload, x_lload, x_aload, x_istore, x_lstore, x_astore, x_iinc, x_iadd, x_isub, x_imul, x_iand, x_ior, x_ixor, x_ladd, x_lsub, x_lmul, x_land, x_lor, x_lxor, x_idiv, x_irem, x_ldiv, x_lrem, x_ineg, x_lneg, x_ishl, x_ishr, x_iushr, x_lshl, x_lshr, x_lushr, x_i2l, x_l2i, x_i2b, x_i2c, x_lcmp, x_if_eq, x_if_ne, x_if_lt, x_if_ge, x_if_gt, x_if_le, x_icmp_eq, x_icmp_ne, x_icmp_lt, x_icmp_ge, x_icmp_gt, x_icmp_le, x_dup, x_pop, x_dup_x1, x_dup2, x_iret, x_zret, x_lret, x_aret, x_vret, x_call, x_callv, x_calli, x_oinit, x_mmax, x_mmin, x_mabs, x_mmaxL, x_mminL, x_mabsL, lg_cmp_ge, lg_cmp_le, lg_cmp_gt, lg_cmp_lt, lg_cmp_eq, xlk, xs1, xs2, lv_args, Value.category, List.filter_cons, List.filter_nil, Nat.reduceAdd, Nat.reduceBEq, Nat.reduceEqDiff, Nat.reduceSub, Nat.sub_zero, beq_self_eq_true, Bool.not_true, Bool.not_false, Bool.and_true, Bool.and_false, Bool.true_and, Bool.false_and, reduceIte, reduceCtorEq, Bool.false_eq_true, Nat.one_ne_zero, Nat.zero_ne_one, Nat.zero_add, Option.toList_some, Option.toList_none, List.nil_append, List.cons_append, List.take_succ_cons, List.take_zero, List.take_nil, List.drop_succ_cons, List.drop_zero, List.length_cons, List.length_nil, List.reverse_cons, List.reverse_nil, List.head?_cons, List.map_cons, List.map_nil, List.sum_cons, List.sum_nil, true_and, and_true, List.getElem?_cons_zero, List.getElem?_cons_succ, Prod.eta, x_get, x_put, x_iald, x_iast, x_bald, x_bast, x_lald, x_last, x_alen, xup_s, xup_a1, xup_1a, xup_uu, nr_i, nr_l, nr_o, nr_a, ft_i, ft_l, ft_o, ft_a, Nat.reduceLT, i_cl0, i_cl1, i_n1, i_m1, List.set_cons_zero, List.set_cons_succ, Nat.reduceLeDiff, Nat.le_refl, Nat.zero_le, Nat.add_zero, hr2]
  obtain ⟨fs1, b1⟩ := q1.obj
  obtain ⟨x1, n1, r1⟩ := q1.R
  refine ⟨⟨_, _, rfl, b1⟩, r + 3, x1, n1, 1, rfl, by omega, r1, fun h3 oC qC => ?_⟩
  have hr3 := (oC r (by omega)).trans hr2
  have pC := pB.off oC (by omega)
  simp only [x_c, x_iload, x_lload, x_aload, x_istore, x_lstore, x_astore, x_iinc, x_iadd, x_isub, x_imul, x_iand, x_ior, x_ixor, x_ladd, x_lsub, x_lmul, x_land, x_lor, x_lxor, x_idiv, x_irem, x_ldiv, x_lrem, x_ineg, x_lneg, x_ishl, x_ishr, x_iushr, x_lshl, x_lshr, x_lushr, x_i2l, x_l2i, x_i2b, x_i2c, x_lcmp, x_if_eq, x_if_ne, x_if_lt, x_if_ge, x_if_gt, x_if_le, x_icmp_eq, x_icmp_ne, x_icmp_lt, x_icmp_ge, x_icmp_gt, x_icmp_le, x_dup, x_pop, x_dup_x1, x_dup2, x_iret, x_zret, x_lret, x_aret, x_vret, x_call, x_callv, x_calli, x_oinit, x_mmax, x_mmin, x_mabs, x_mmaxL, x_mminL, x_mabsL, lg_cmp_ge, lg_cmp_le, lg_cmp_gt, lg_cmp_lt, lg_cmp_eq, xlk, xs1, xs2, lv_args, Value.category, List.filter_cons, List.filter_nil, Nat.reduceAdd, Nat.reduceBEq, Nat.reduceEqDiff, Nat.reduceSub, Nat.sub_zero, beq_self_eq_true, Bool.not_true, Bool.not_false, Bool.and_true, Bool.and_false, Bool.true_and, Bool.false_and, reduceIte, reduceCtorEq, Bool.false_eq_true, Nat.one_ne_zero, Nat.zero_ne_one, Nat.zero_add, Option.toList_some, Option.toList_none, List.nil_append, List.cons_append, List.take_succ_cons, List.take_zero, List.take_nil, List.drop_succ_cons, List.drop_zero, List.length_cons, List.length_nil, List.reverse_cons, List.reverse_nil, List.head?_cons, List.map_cons, List.map_nil, List.sum_cons, List.sum_nil, true_and, and_true, List.getElem?_cons_zero, List.getElem?_cons_succ, Prod.eta, x_get, x_put, x_iald, x_iast, x_bald, x_bast, x_lald, x_last, x_alen, xup_s, xup_a1, xup_1a, xup_uu, nr_i, nr_l, nr_o, nr_a, ft_i, ft_l, ft_o, ft_a, Nat.reduceLT, i_cl0, i_cl1, i_n1, i_m1, List.set_cons_zero, List.set_cons_succ, Nat.reduceLeDiff, Nat.le_refl, Nat.zero_le, Nat.add_zero, hr3]
  exact hQ _ (xoff_up (xoff_tr (xoff_wd oC (by omega) (by omega)) (xoff_tr (xoff_wd oB (by omega) (by omega)) (xoff_wd oA (by omega) (by omega)))) (by omega) (by omega)) ⟨xup_s, pC.off off1 (by omega), qC.off off1 (by omega), by omega, by omega⟩
/-- a float's parts -/
def fE (u : Nat) : Nat := u / 2 ^ 52 % 2048
def fF (u : Nat) : Nat := u % 2 ^ 52
def fP (u : Nat) : Nat := if fE u = 0 then fF u else fF u + 2 ^ 52
def fX (u : Nat) : Int := if fE u = 0 then -1074 else (fE u : Int) - 1075
theorem dX13_setFloat_0 : decode cX13_setFloat 0 = .ok (.lload_n 1, 1) := by decide +kernel
theorem dX13_setFloat_1 : decode cX13_setFloat 1 = .ok (.bipush 52, 2) := by decide +kernel
theorem dX13_setFloat_3 : decode cX13_setFloat 3 = .ok (.lushr, 1) := by decide +kernel
theorem dX13_setFloat_4 : decode cX13_setFloat 4 = .ok (.ldc2_w 38, 3) := by decide +kernel
theorem dX13_setFloat_7 : decode cX13_setFloat 7 = .ok (.land, 1) := by decide +kernel
theorem dX13_setFloat_8 : decode cX13_setFloat 8 = .ok (.lstore_n 3, 1) := by decide +kernel
theorem dX13_setFloat_9 : decode cX13_setFloat 9 = .ok (.lload_n 1, 1) := by decide +kernel
theorem dX13_setFloat_10 : decode cX13_setFloat 10 = .ok (.ldc2_w 40, 3) := by decide +kernel
theorem dX13_setFloat_13 : decode cX13_setFloat 13 = .ok (.land, 1) := by decide +kernel
theorem dX13_setFloat_14 : decode cX13_setFloat 14 = .ok (.lstore 5, 2) := by decide +kernel
theorem dX13_setFloat_16 : decode cX13_setFloat 16 = .ok (.aload_n 0, 1) := by decide +kernel
theorem dX13_setFloat_17 : decode cX13_setFloat 17 = .ok (.lload_n 1, 1) := by decide +kernel
theorem dX13_setFloat_18 : decode cX13_setFloat 18 = .ok (.lconst 0, 1) := by decide +kernel
theorem dX13_setFloat_19 : decode cX13_setFloat 19 = .ok (.lcmp, 1) := by decide +kernel
theorem dX13_setFloat_20 : decode cX13_setFloat 20 = .ok (.ifCond .ge 7, 3) := by decide +kernel
theorem dX13_setFloat_23 : decode cX13_setFloat 23 = .ok (.iconst 1, 1) := by decide +kernel
theorem dX13_setFloat_24 : decode cX13_setFloat 24 = .ok (.goto 4, 3) := by decide +kernel
theorem dX13_setFloat_27 : decode cX13_setFloat 27 = .ok (.iconst 0, 1) := by decide +kernel
theorem dX13_setFloat_28 : decode cX13_setFloat 28 = .ok (.putfield 19, 3) := by decide +kernel
theorem dX13_setFloat_31 : decode cX13_setFloat 31 = .ok (.aload_n 0, 1) := by decide +kernel
theorem dX13_setFloat_32 : decode cX13_setFloat 32 = .ok (.getfield 10, 3) := by decide +kernel
theorem dX13_setFloat_35 : decode cX13_setFloat 35 = .ok (.lload_n 3, 1) := by decide +kernel
theorem dX13_setFloat_36 : decode cX13_setFloat 36 = .ok (.lconst 0, 1) := by decide +kernel
theorem dX13_setFloat_37 : decode cX13_setFloat 37 = .ok (.lcmp, 1) := by decide +kernel
theorem dX13_setFloat_38 : decode cX13_setFloat 38 = .ok (.ifCond .ne 8, 3) := by decide +kernel
theorem dX13_setFloat_41 : decode cX13_setFloat 41 = .ok (.lload 5, 2) := by decide +kernel
theorem dX13_setFloat_43 : decode cX13_setFloat 43 = .ok (.goto 9, 3) := by decide +kernel
theorem dX13_setFloat_46 : decode cX13_setFloat 46 = .ok (.lload 5, 2) := by decide +kernel
theorem dX13_setFloat_48 : decode cX13_setFloat 48 = .ok (.ldc2_w 42, 3) := by decide +kernel
theorem dX13_setFloat_51 : decode cX13_setFloat 51 = .ok (.lor, 1) := by decide +kernel
theorem dX13_setFloat_52 : decode cX13_setFloat 52 = .ok (.invokevirtual 23, 3) := by decide +kernel
theorem dX13_setFloat_55 : decode cX13_setFloat 55 = .ok (.aload_n 0, 1) := by decide +kernel
theorem dX13_setFloat_56 : decode cX13_setFloat 56 = .ok (.getfield 16, 3) := by decide +kernel
theorem dX13_setFloat_59 : decode cX13_setFloat 59 = .ok (.lconst 1, 1) := by decide +kernel
theorem dX13_setFloat_60 : decode cX13_setFloat 60 = .ok (.invokevirtual 23, 3) := by decide +kernel
theorem dX13_setFloat_63 : decode cX13_setFloat 63 = .ok (.aload_n 0, 1) := by decide +kernel
theorem dX13_setFloat_64 : decode cX13_setFloat 64 = .ok (.lload_n 3, 1) := by decide +kernel
theorem dX13_setFloat_65 : decode cX13_setFloat 65 = .ok (.lconst 0, 1) := by decide +kernel
theorem dX13_setFloat_66 : decode cX13_setFloat 66 = .ok (.lcmp, 1) := by decide +kernel
theorem dX13_setFloat_67 : decode cX13_setFloat 67 = .ok (.ifCond .ne 9, 3) := by decide +kernel
theorem dX13_setFloat_70 : decode cX13_setFloat 70 = .ok (.sipush (-1074), 3) := by decide +kernel
theorem dX13_setFloat_73 : decode cX13_setFloat 73 = .ok (.goto 9, 3) := by decide +kernel
theorem dX13_setFloat_76 : decode cX13_setFloat 76 = .ok (.lload_n 3, 1) := by decide +kernel
theorem dX13_setFloat_77 : decode cX13_setFloat 77 = .ok (.l2i, 1) := by decide +kernel
theorem dX13_setFloat_78 : decode cX13_setFloat 78 = .ok (.sipush 1075, 3) := by decide +kernel
theorem dX13_setFloat_81 : decode cX13_setFloat 81 = .ok (.isub, 1) := by decide +kernel
theorem dX13_setFloat_82 : decode cX13_setFloat 82 = .ok (.putfield 27, 3) := by decide +kernel
theorem dX13_setFloat_85 : decode cX13_setFloat 85 = .ok (.return_, 1) := by decide +kernel
abbrev r_X13_setFloat : Room := { frames := 1, cells := 0, slots := 0, locals := 24 }
abbrev m_X13_setFloat : xMd := (cX13_setFloat, RX13, 7, none, false, r_X13_setFloat)
def b_X13_setFloat_82 (Q : xQ) : xK := x_put 12 3 .int <| x_vret Q
def b_X13_setFloat_52 (Q : xQ) : xK := x_callv 11 C_X12_set 2 0 0 <| x_aload 0 <| x_get 12 2 <| x_c (.long 1) <| x_callv 11 C_X12_set 2 0 0 <| x_aload 0 <| x_lload 3 <| x_c (.long 0) <| x_lcmp <| x_if_ne (x_lload 3 <| x_l2i <| x_c (.int 1075) <| x_isub <| (b_X13_setFloat_82 Q)) <| x_c (.int (-1074)) <| (b_X13_setFloat_82 Q)
def b_X13_setFloat_28 (Q : xQ) : xK := x_put 12 0 .boolean <| x_aload 0 <| x_get 12 1 <| x_lload 3 <| x_c (.long 0) <| x_lcmp <| x_if_ne (x_lload 5 <| x_c (.long 4503599627370496) <| x_lor <| (b_X13_setFloat_52 Q)) <| x_lload 5 <| (b_X13_setFloat_52 Q)
def b_X13_setFloat_0 (Q : xQ) : xK := x_lload 1 <| x_c (.int 52) <| x_lushr <| x_c (.long 2047) <| x_land <| x_lstore 3 <| x_lload 1 <| x_c (.long 4503599627370495) <| x_land <| x_lstore 5 <| x_aload 0 <| x_lload 1 <| x_c (.long 0) <| x_lcmp <| x_if_ge (x_c (.int 0) <| (b_X13_setFloat_28 Q)) <| x_c (.int 1) <| (b_X13_setFloat_28 Q)
theorem s_X13_setFloat_82 (G : xG) (l : Launch) (Q : xQ) : xW G l m_X13_setFloat xX0 (xPm G Q r_X13_setFloat) 82 (b_X13_setFloat_82 Q) := xo_put (pc := 82) (ci := 12) (i := 3) rfl ok12 (by decide) rfl rfl dX13_setFloat_82 kw1191 <| xo_vret (pc := 85) rfl dX13_setFloat_85
theorem s_X13_setFloat_52 (G : xG) (l : Launch) (Q : xQ) : xW G l m_X13_setFloat xX0 (xPm G Q r_X13_setFloat) 52 (b_X13_setFloat_52 Q) := xo_callV (pc := 52) (np := 1) (ci := 11) rfl (cM_X12_set G l) dX13_setFloat_52 kw1393 kw1390 kw1391 kw1392 kw14 (by decide +kernel) (by decide) <| xo_aload_n (pc := 55) (i := 0) dX13_setFloat_55 rfl <| xo_get (pc := 56) (ci := 12) (i := 2) rfl ok12 (by decide) dX13_setFloat_56 kw1189 <| xo_lconst (pc := 59) dX13_setFloat_59 (by decide) <| xo_callV (pc := 60) (np := 1) (ci := 11) rfl (cM_X12_set G l) dX13_setFloat_60 kw1393 kw1390 kw1391 kw1392 kw14 (by decide +kernel) (by decide) <| xo_aload_n (pc := 63) (i := 0) dX13_setFloat_63 rfl <| xo_lload_n (pc := 64) (i := 3) dX13_setFloat_64 rfl <| xo_lconst (pc := 65) dX13_setFloat_65 (by decide) <| xo_lcmp (pc := 66) dX13_setFloat_66 <| xo_if_ne (pc := 67) (tgt := 76) dX13_setFloat_67 (by decide) (xo_lload_n (pc := 76) (i := 3) dX13_setFloat_76 rfl <| xo_l2i (pc := 77) dX13_setFloat_77 <| xo_sipush (pc := 78) dX13_setFloat_78 (by decide) <| xo_isub (pc := 81) dX13_setFloat_81 <| (s_X13_setFloat_82 G l Q)) <| xo_sipush (pc := 70) dX13_setFloat_70 (by decide) <| xo_goto (pc := 73) (tgt := 82) dX13_setFloat_73 (by decide) <| (s_X13_setFloat_82 G l Q)
theorem s_X13_setFloat_28 (G : xG) (l : Launch) (Q : xQ) : xW G l m_X13_setFloat xX0 (xPm G Q r_X13_setFloat) 28 (b_X13_setFloat_28 Q) := xo_put (pc := 28) (ci := 12) (i := 0) rfl ok12 (by decide) rfl rfl dX13_setFloat_28 kw1184 <| xo_aload_n (pc := 31) (i := 0) dX13_setFloat_31 rfl <| xo_get (pc := 32) (ci := 12) (i := 1) rfl ok12 (by decide) dX13_setFloat_32 kw1186 <| xo_lload_n (pc := 35) (i := 3) dX13_setFloat_35 rfl <| xo_lconst (pc := 36) dX13_setFloat_36 (by decide) <| xo_lcmp (pc := 37) dX13_setFloat_37 <| xo_if_ne (pc := 38) (tgt := 46) dX13_setFloat_38 (by decide) (xo_lload (pc := 46) (i := 5) dX13_setFloat_46 <| xo_ldc2_w (pc := 48) dX13_setFloat_48 kw1389 <| xo_lor (pc := 51) dX13_setFloat_51 <| (s_X13_setFloat_52 G l Q)) <| xo_lload (pc := 41) (i := 5) dX13_setFloat_41 <| xo_goto (pc := 43) (tgt := 52) dX13_setFloat_43 (by decide) <| (s_X13_setFloat_52 G l Q)
theorem s_X13_setFloat_0 (G : xG) (l : Launch) (Q : xQ) : xW G l m_X13_setFloat xX0 (xPm G Q r_X13_setFloat) 0 (b_X13_setFloat_0 Q) := xo_lload_n (pc := 0) (i := 1) dX13_setFloat_0 rfl <| xo_bipush (pc := 1) dX13_setFloat_1 (by decide) <| xo_lushr (pc := 3) dX13_setFloat_3 <| xo_ldc2_w (pc := 4) dX13_setFloat_4 kw1387 <| xo_land (pc := 7) dX13_setFloat_7 <| xo_lstore_n (pc := 8) (i := 3) dX13_setFloat_8 rfl (by decide) <| xo_lload_n (pc := 9) (i := 1) dX13_setFloat_9 rfl <| xo_ldc2_w (pc := 10) dX13_setFloat_10 kw1388 <| xo_land (pc := 13) dX13_setFloat_13 <| xo_lstore (pc := 14) (i := 5) dX13_setFloat_14 (by decide) <| xo_aload_n (pc := 16) (i := 0) dX13_setFloat_16 rfl <| xo_lload_n (pc := 17) (i := 1) dX13_setFloat_17 rfl <| xo_lconst (pc := 18) dX13_setFloat_18 (by decide) <| xo_lcmp (pc := 19) dX13_setFloat_19 <| xo_if_ge (pc := 20) (tgt := 27) dX13_setFloat_20 (by decide) (xo_iconst (pc := 27) dX13_setFloat_27 (by decide) <| (s_X13_setFloat_28 G l Q)) <| xo_iconst (pc := 23) dX13_setFloat_23 (by decide) <| xo_goto (pc := 24) (tgt := 28) dX13_setFloat_24 (by decide) <| (s_X13_setFloat_28 G l Q)

def C_X13_setFloat : xC := fun av S Q => ∃ (r u : Nat) (c : Bool) (p' q' : Nat) (e' : Int), av = [.ref r, .long (lN u)] ∧ u < 2 ^ 64 ∧ nuR S.1 r c p' q' e' ∧ ∀ h', xoff h' S.1 r (r + 5) → nuR h' r (decide (2 ^ 63 ≤ u)) (fP u) 1 (fX u) → Q none (h', S.2)
theorem cM_X13_setFloat (G : xG) (l : Launch) : xM G l yX13_setFloat cX13_setFloat 7 none r_X13_setFloat C_X13_setFloat := by
  refine xM_of (fun Q => b_X13_setFloat_0 Q) RX13 false (s_X13_setFloat_0 G l) (by decide) rfl (by decide) ?_
  rintro av S Q ⟨r, u, c, p', q', e', rfl, hu, ⟨h1, hp', hq', he'⟩, hQ⟩
  refine ⟨Nat.le_of_ble_eq_true rfl, ?_⟩
  have s52 : ((lN u).toUInt64 >>> ((52 : Int32).toInt64.toUInt64 &&& Int64.toUInt64 63)).toInt64 = lN (u / 2 ^ 52) := wb_shr (k := 52) hu (by decide)
  have aE : lN (u / 2 ^ 52) &&& 2047 = lN (fE u) := wb_mask (k := 11) (by omega) (by decide)
  have aF : lN u &&& 4503599627370495 = lN (fF u) := wb_mask (k := 52) hu (by decide)
  have lE : fE u < 2048 := Nat.mod_lt _ (by decide)
  have lF : fF u < 2 ^ 52 := Nat.mod_lt _ (by decide)
  have oF : lN (fF u) ||| 4503599627370496 = lN (fF u + 1 * 2 ^ 52) := g_or' (k := 52) (b := 1) rfl lF (by omega)
  have zE : lN (fE u) = 0 ↔ fE u = 0 := pk_lEQ (b := 0) (by omega) (by decide)
  have e0 : (0 : Int64) ≤ lN u ↔ ¬ 2 ^ 63 ≤ u := by
    rw [l_le, lN_ti hu, show (0 : Int64).toInt = 0 by decide]
    split <;> omega
  have i75 : nI (fE u) - 1075 = iZ ((fE u : Int) - 1075) := by rw [← iZ_nat]; exact iZ_sub _ 1075
  -- from the block that writes below on
  have mid : ∀ (b : Bool) (lv : List (Nat × Value)), xlk lv 0 = some (.ref r) → xlk lv 3 = some (.long (lN (fE u))) → xlk lv 5 = some (.long (lN (fF u))) → b = decide (2 ^ 63 ≤ u) → b_X13_setFloat_28 Q lv [.int (bI b), .ref r] S := by
    intro b lv l0 l3 l5 hb
    have go : ∀ p, p < 2 ^ 53 → p = fP u → ∀ h2, h2 = xup S.1 r (.inr (12, [.int (bI b), .ref (r + 1), .ref (r + 3), .int (iZ e')])) → b_X13_setFloat_52 Q lv [.long (lN p), .ref (r + 1)] (h2, S.2) := by
      intro p hp hpe hh hA
      have oA : xoff hh S.1 r (r + 1) := by rw [hA]; exact off1
      have hr : hh r = some (.inr (12, [.int (bI b), .ref (r + 1), .ref (r + 3), .int (iZ e')])) := by rw [hA, xup_s]
      simp only [x_c, x_iload, x_lload, x_aload, x_istore, x_lstore, x_astore, x_iinc, x_iadd, x_isub, x_imul, x_iand, x_ior, x_ixor, x_ladd, x_lsub, x_lmul, x_land, x_lor, x_lxor, x_idiv, x_irem, x_ldiv, x_lrem, x_ineg, x_lneg, x_ishl, x_ishr, x_iushr, x_lshl, x_lshr, x_lushr, x_i2l, x_l2i, x_i2b, x_i2c, x_lcmp, x_if_eq, x_if_ne, x_if_lt, x_if_ge, x_if_gt, x_if_le, x_icmp_eq, x_icmp_ne, x_icmp_lt, x_icmp_ge, x_icmp_gt, x_icmp_le, x_dup, x_pop, x_dup_x1, x_dup2, x_iret, x_zret, x_lret, x_aret, x_vret, x_call, x_callv, x_calli, x_oinit, x_mmax, x_mmin, x_mabs, x_mmaxL, x_mminL, x_mabsL, lg_cmp_ge, lg_cmp_le, lg_cmp_gt, lg_cmp_lt, lg_cmp_eq, xlk, xs1, xs2, lv_args, Value.category, List.filter_cons, List.filter_nil, Nat.reduceAdd, Nat.reduceBEq, Nat.reduceEqDiff, Nat.reduceSub, Nat.sub_zero, beq_self_eq_true, Bool.not_true, Bool.not_false, Bool.and_true, Bool.and_false, Bool.true_and, Bool.false_and, reduceIte, reduceCtorEq, Bool.false_eq_true, Nat.one_ne_zero, Nat.zero_ne_one, Nat.zero_add, Option.toList_some, Option.toList_none, List.nil_append, List.cons_append, List.take_succ_cons, List.take_zero, List.take_nil, List.drop_succ_cons, List.drop_zero, List.length_cons, List.length_nil, List.reverse_cons, List.reverse_nil, List.head?_cons, List.map_cons, List.map_nil, List.sum_cons, List.sum_nil, true_and, and_true, List.getElem?_cons_zero, List.getElem?_cons_succ, Prod.eta, x_get, x_put, x_iald, x_iast, x_bald, x_bast, x_lald, x_last, x_alen, xup_s, xup_a1, xup_1a, xup_uu, nr_i, nr_l, nr_o, nr_a, ft_i, ft_l, ft_o, ft_a, Nat.reduceLT, i_cl0, i_cl1, i_n1, i_m1, List.set_cons_zero, List.set_cons_succ, Nat.reduceLeDiff, Nat.le_refl, Nat.zero_le, Nat.add_zero, b_X13_setFloat_52, b_X13_setFloat_82, l0, l3]
      obtain ⟨fs1, b1⟩ := (hp'.off oA (by omega)).obj
      obtain ⟨x1, n1, r1⟩ := (hp'.off oA (by omega)).R
      have q1 := hq'.off oA (by omega)
      refine ⟨⟨_, _, rfl, b1⟩, r + 1, x1, n1, p, rfl, by omega, r1, fun h2 oB pB => ?_⟩
      have hr2 := (oB r (by omega)).trans hr
      have q1 := q1.off oB (by omega)
      simp only [x_c, x_iload, x_lload, x_aload, x_istore, x_lstore, x_astore, x_iinc, x_iadd, x_isub, x_imul, x_iand, x_ior, x_ixor, x_ladd, x_lsub, x_lmul, x_land, x_lor, x_lxor, x_idiv, x_irem, x_ldiv, x_lrem, x_ineg, x_lneg, x_ishl, x_ishr, x_iushr, x_lshl, x_lshr, x_lushr, x_i2l, x_l2i, x_i2b, x_i2c, x_lcmp, x_if_eq, x_if_ne, x_if_lt, x_if_ge, x_if_gt, x_if_le, x_icmp_eq, x_icmp_ne, x_icmp_lt, x_icmp_ge, x_icmp_gt, x_icmp_le, x_dup, x_pop, x_dup_x1, x_dup2, x_iret, x_zret, x_lret, x_aret, x_vret, x_call, x_callv, x_calli, x_oinit, x_mmax, x_mmin, x_mabs, x_mmaxL, x_mminL, x_mabsL, lg_cmp_ge, lg_cmp_le, lg_cmp_gt, lg_cmp_lt, lg_cmp_eq, xlk, xs1, xs2, lv_args, Value.category, List.filter_cons, List.filter_nil, Nat.reduceAdd, Nat.reduceBEq, Nat.reduceEqDiff, Nat.reduceSub, Nat.sub_zero, beq_self_eq_true, Bool.not_true, Bool.not_false, Bool.and_true, Bool.and_false, Bool.true_and, Bool.false_and, reduceIte, reduceCtorEq, Bool.false_eq_true, Nat.one_ne_zero, Nat.zero_ne_one, Nat.zero_add, Option.toList_some, Option.toList_none, List.nil_append, List.cons_append, List.take_succ_cons, List.take_zero, List.take_nil, List.drop_succ_cons, List.drop_zero, List.length_cons, List.length_nil, List.reverse_cons, List.reverse_nil, List.head?_cons, List.map_cons, List.map_nil, List.sum_cons, List.sum_nil, true_and, and_true, List.getElem?_cons_zero, List.getElem?_cons_succ, Prod.eta, x_get, x_put, x_iald, x_iast, x_bald, x_bast, x_lald, x_last, x_alen, xup_s, xup_a1, xup_1a, xup_uu, nr_i, nr_l, nr_o, nr_a, ft_i, ft_l, ft_o, ft_a, Nat.reduceLT, i_cl0, i_cl1, i_n1, i_m1, List.set_cons_zero, List.set_cons_succ, Nat.reduceLeDiff, Nat.le_refl, Nat.zero_le, Nat.add_zero, hr2]
      obtain ⟨fs1, b1⟩ := q1.obj
      obtain ⟨x1, n1, r1⟩ := q1.R
      refine ⟨⟨_, _, rfl, b1⟩, r + 3, x1, n1, 1, rfl, by omega, r1, fun h3 oC qC => ?_⟩
      have hr3 := (oC r (by omega)).trans hr2
      have pC := pB.off oC (by omega)
      simp only [x_c, x_iload, x_lload, x_aload, x_istore, x_lstore, x_astore, x_iinc, x_iadd, x_isub, x_imul, x_iand, x_ior, x_ixor, x_ladd, x_lsub, x_lmul, x_land, x_lor, x_lxor, x_idiv, x_irem, x_ldiv, x_lrem, x_ineg, x_lneg, x_ishl, x_ishr, x_iushr, x_lshl, x_lshr, x_lushr, x_i2l, x_l2i, x_i2b, x_i2c, x_lcmp, x_if_eq, x_if_ne, x_if_lt, x_if_ge, x_if_gt, x_if_le, x_icmp_eq, x_icmp_ne, x_icmp_lt, x_icmp_ge, x_icmp_gt, x_icmp_le, x_dup, x_pop, x_dup_x1, x_dup2, x_iret, x_zret, x_lret, x_aret, x_vret, x_call, x_callv, x_calli, x_oinit, x_mmax, x_mmin, x_mabs, x_mmaxL, x_mminL, x_mabsL, lg_cmp_ge, lg_cmp_le, lg_cmp_gt, lg_cmp_lt, lg_cmp_eq, xlk, xs1, xs2, lv_args, Value.category, List.filter_cons, List.filter_nil, Nat.reduceAdd, Nat.reduceBEq, Nat.reduceEqDiff, Nat.reduceSub, Nat.sub_zero, beq_self_eq_true, Bool.not_true, Bool.not_false, Bool.and_true, Bool.and_false, Bool.true_and, Bool.false_and, reduceIte, reduceCtorEq, Bool.false_eq_true, Nat.one_ne_zero, Nat.zero_ne_one, Nat.zero_add, Option.toList_some, Option.toList_none, List.nil_append, List.cons_append, List.take_succ_cons, List.take_zero, List.take_nil, List.drop_succ_cons, List.drop_zero, List.length_cons, List.length_nil, List.reverse_cons, List.reverse_nil, List.head?_cons, List.map_cons, List.map_nil, List.sum_cons, List.sum_nil, true_and, and_true, List.getElem?_cons_zero, List.getElem?_cons_succ, Prod.eta, x_get, x_put, x_iald, x_iast, x_bald, x_bast, x_lald, x_last, x_alen, xup_s, xup_a1, xup_1a, xup_uu, nr_i, nr_l, nr_o, nr_a, ft_i, ft_l, ft_o, ft_a, Nat.reduceLT, i_cl0, i_cl1, i_n1, i_m1, List.set_cons_zero, List.set_cons_succ, Nat.reduceLeDiff, Nat.le_refl, Nat.zero_le, Nat.add_zero, hr3, zE, lN_l2i, i75]
      have fin : ∀ x : Int, x = fX u → Q none (xup h3 r (.inr (12, [.int (bI b), .ref (r + 1), .ref (r + 3), .int (iZ x)])), S.2) := fun x hx => by
        subst hx
        refine hQ _ (xoff_up (xoff_tr (xoff_wd oC (by omega) (by omega)) (xoff_tr (xoff_wd oB (by omega) (by omega)) (xoff_wd oA (by omega) (by omega)))) (by omega) (by omega)) ⟨by rw [xup_s, hb], by rw [← hpe]; exact pC.off off1 (by omega), qC.off off1 (by omega), ?_⟩
        unfold fX
        split <;> omega
      exact ⟨fun z => fin _ (if_neg z).symm, fun z => fin (-1074) (if_pos z).symm⟩
    simp only [x_c, x_iload, x_lload, x_aload, x_istore, x_lstore, x_astore, x_iinc, x_iadd, x_isub, x_imul, x_iand, x_ior, x_ixor, x_ladd, x_lsub, x_lmul, x_land, x_lor, x_lxor, x_idiv, x_irem, x_ldiv, x_lrem, x_ineg, x_lneg, x_ishl, x_ishr, x_iushr, x_lshl, x_lshr, x_lushr, x_i2l, x_l2i, x_i2b, x_i2c, x_lcmp, x_if_eq, x_if_ne, x_if_lt, x_if_ge, x_if_gt, x_if_le, x_icmp_eq, x_icmp_ne, x_icmp_lt, x_icmp_ge, x_icmp_gt, x_icmp_le, x_dup, x_pop, x_dup_x1, x_dup2, x_iret, x_zret, x_lret, x_aret, x_vret, x_call, x_callv, x_calli, x_oinit, x_mmax, x_mmin, x_mabs, x_mmaxL, x_mminL, x_mabsL, lg_cmp_ge, lg_cmp_le, lg_cmp_gt, lg_cmp_lt, lg_cmp_eq, xlk, xs1, xs2, lv_args, Value.category, List.filter_cons, List.filter_nil, Nat.reduceAdd, Nat.reduceBEq, Nat.reduceEqDiff, Nat.reduceSub, Nat.sub_zero, beq_self_eq_true, Bool.not_true, Bool.not_false, Bool.and_true, Bool.and_false, Bool.true_and, Bool.false_and, reduceIte, reduceCtorEq, Bool.false_eq_true, Nat.one_ne_zero, Nat.zero_ne_one, Nat.zero_add, Option.toList_some, Option.toList_none, List.nil_append, List.cons_append, List.take_succ_cons, List.take_zero, List.take_nil, List.drop_succ_cons, List.drop_zero, List.length_cons, List.length_nil, List.reverse_cons, List.reverse_nil, List.head?_cons, List.map_cons, List.map_nil, List.sum_cons, List.sum_nil, true_and, and_true, List.getElem?_cons_zero, List.getElem?_cons_succ, Prod.eta, x_get, x_put, x_iald, x_iast, x_bald, x_bast, x_lald, x_last, x_alen, xup_s, xup_a1, xup_1a, xup_uu, nr_i, nr_l, nr_o, nr_a, ft_i, ft_l, ft_o, ft_a, Nat.reduceLT, i_cl0, i_cl1, i_n1, i_m1, List.set_cons_zero, List.set_cons_succ, Nat.reduceLeDiff, Nat.le_refl, Nat.zero_le, Nat.add_zero, b_X13_setFloat_28, h1, l0, l3, l5, nr_z, ft_z, zE, oF]
    exact ⟨fun z => go _ (by omega) (by unfold fP; rw [if_neg z]) _ rfl, fun z => go _ (by omega) (if_pos z).symm _ rfl⟩
  simp only [x_c, x_iload, x_lload, x_aload, x_istore, x_lstore, x_astore, x_iinc, x_iadd, x_isub, x_imul, x_iand, x_ior, x_ixor, x_ladd, x_lsub, x_lmul, x_land, x_lor, x_lxor, x_idiv, x_irem, x_ldiv, x_lrem, x_ineg, x_lneg, x_ishl, x_ishr, x_iushr, x_lshl, x_lshr, x_lushr, x_i2l, x_l2i, x_i2b, x_i2c, x_lcmp, x_if_eq, x_if_ne, x_if_lt, x_if_ge, x_if_gt, x_if_le, x_icmp_eq, x_icmp_ne, x_icmp_lt, x_icmp_ge, x_icmp_gt, x_icmp_le, x_dup, x_pop, x_dup_x1, x_dup2, x_iret, x_zret, x_lret, x_aret, x_vret, x_call, x_callv, x_calli, x_oinit, x_mmax, x_mmin, x_mabs, x_mmaxL, x_mminL, x_mabsL, lg_cmp_ge, lg_cmp_le, lg_cmp_gt, lg_cmp_lt, lg_cmp_eq, xlk, xs1, xs2, lv_args, Value.category, List.filter_cons, List.filter_nil, Nat.reduceAdd, Nat.reduceBEq, Nat.reduceEqDiff, Nat.reduceSub, Nat.sub_zero, beq_self_eq_true, Bool.not_true, Bool.not_false, Bool.and_true, Bool.and_false, Bool.true_and, Bool.false_and, reduceIte, reduceCtorEq, Bool.false_eq_true, Nat.one_ne_zero, Nat.zero_ne_one, Nat.zero_add, Option.toList_some, Option.toList_none, List.nil_append, List.cons_append, List.take_succ_cons, List.take_zero, List.take_nil, List.drop_succ_cons, List.drop_zero, List.length_cons, List.length_nil, List.reverse_cons, List.reverse_nil, List.head?_cons, List.map_cons, List.map_nil, List.sum_cons, List.sum_nil, true_and, and_true, List.getElem?_cons_zero, List.getElem?_cons_succ, Prod.eta, x_get, x_put, x_iald, x_iast, x_bald, x_bast, x_lald, x_last, x_alen, xup_s, xup_a1, xup_1a, xup_uu, nr_i, nr_l, nr_o, nr_a, ft_i, ft_l, ft_o, ft_a, Nat.reduceLT, i_cl0, i_cl1, i_n1, i_m1, List.set_cons_zero, List.set_cons_succ, Nat.reduceLeDiff, Nat.le_refl, Nat.zero_le, Nat.add_zero, b_X13_setFloat_0, s52, aE, aF, e0]
  exact ⟨fun z => mid false _ rfl rfl rfl (by simp [z]), fun z => mid true _ rfl rfl rfl (by simp; omega)⟩
