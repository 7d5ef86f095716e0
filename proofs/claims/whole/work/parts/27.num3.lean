theorem dX13_times_0 : decode cX13_times 0 = .ok (.aload_n 0, 1) := by decide +kernel
theorem dX13_times_1 : decode cX13_times 1 = .ok (.aload_n 1, 1) := by decide +kernel
theorem dX13_times_2 : decode cX13_times 2 = .ok (.getfield 19, 3) := by decide +kernel
theorem dX13_times_5 : decode cX13_times 5 = .ok (.aload_n 2, 1) := by decide +kernel
theorem dX13_times_6 : decode cX13_times 6 = .ok (.getfield 19, 3) := by decide +kernel
theorem dX13_times_9 : decode cX13_times 9 = .ok (.if_icmp .eq 7, 3) := by decide +kernel
theorem dX13_times_12 : decode cX13_times 12 = .ok (.iconst 1, 1) := by decide +kernel
theorem dX13_times_13 : decode cX13_times 13 = .ok (.goto 4, 3) := by decide +kernel
theorem dX13_times_16 : decode cX13_times 16 = .ok (.iconst 0, 1) := by decide +kernel
theorem dX13_times_17 : decode cX13_times 17 = .ok (.putfield 19, 3) := by decide +kernel
theorem dX13_times_20 : decode cX13_times 20 = .ok (.aload_n 0, 1) := by decide +kernel
theorem dX13_times_21 : decode cX13_times 21 = .ok (.getfield 10, 3) := by decide +kernel
theorem dX13_times_24 : decode cX13_times 24 = .ok (.aload_n 1, 1) := by decide +kernel
theorem dX13_times_25 : decode cX13_times 25 = .ok (.getfield 10, 3) := by decide +kernel
theorem dX13_times_28 : decode cX13_times 28 = .ok (.aload_n 2, 1) := by decide +kernel
theorem dX13_times_29 : decode cX13_times 29 = .ok (.getfield 10, 3) := by decide +kernel
theorem dX13_times_32 : decode cX13_times 32 = .ok (.invokevirtual 44, 3) := by decide +kernel
theorem dX13_times_35 : decode cX13_times 35 = .ok (.aload_n 0, 1) := by decide +kernel
theorem dX13_times_36 : decode cX13_times 36 = .ok (.getfield 16, 3) := by decide +kernel
theorem dX13_times_39 : decode cX13_times 39 = .ok (.aload_n 1, 1) := by decide +kernel
theorem dX13_times_40 : decode cX13_times 40 = .ok (.getfield 16, 3) := by decide +kernel
theorem dX13_times_43 : decode cX13_times 43 = .ok (.aload_n 2, 1) := by decide +kernel
theorem dX13_times_44 : decode cX13_times 44 = .ok (.getfield 16, 3) := by decide +kernel
theorem dX13_times_47 : decode cX13_times 47 = .ok (.invokevirtual 44, 3) := by decide +kernel
theorem dX13_times_50 : decode cX13_times 50 = .ok (.aload_n 0, 1) := by decide +kernel
theorem dX13_times_51 : decode cX13_times 51 = .ok (.aload_n 1, 1) := by decide +kernel
theorem dX13_times_52 : decode cX13_times 52 = .ok (.getfield 27, 3) := by decide +kernel
theorem dX13_times_55 : decode cX13_times 55 = .ok (.aload_n 2, 1) := by decide +kernel
theorem dX13_times_56 : decode cX13_times 56 = .ok (.getfield 27, 3) := by decide +kernel
theorem dX13_times_59 : decode cX13_times 59 = .ok (.iadd, 1) := by decide +kernel
theorem dX13_times_60 : decode cX13_times 60 = .ok (.putfield 27, 3) := by decide +kernel
theorem dX13_times_63 : decode cX13_times 63 = .ok (.return_, 1) := by decide +kernel
abbrev r_X13_times : Room := { frames := 2, cells := 0, slots := 0, locals := 48 }
abbrev m_X13_times : xMd := (cX13_times, RX13, 3, none, false, r_X13_times)
def b_X13_times_17 (Q : xQ) : xK := x_put 12 0 .boolean <| x_aload 0 <| x_get 12 1 <| x_aload 1 <| x_get 12 1 <| x_aload 2 <| x_get 12 1 <| x_callv 11 C_X12_product 3 0 0 <| x_aload 0 <| x_get 12 2 <| x_aload 1 <| x_get 12 2 <| x_aload 2 <| x_get 12 2 <| x_callv 11 C_X12_product 3 0 0 <| x_aload 0 <| x_aload 1 <| x_get 12 3 <| x_aload 2 <| x_get 12 3 <| x_iadd <| x_put 12 3 .int <| x_vret Q
def b_X13_times_0 (Q : xQ) : xK := x_aload 0 <| x_aload 1 <| x_get 12 0 <| x_aload 2 <| x_get 12 0 <| x_icmp_eq (x_c (.int 0) <| (b_X13_times_17 Q)) <| x_c (.int 1) <| (b_X13_times_17 Q)
theorem s_X13_times_17 (G : xG) (l : Launch) (Q : xQ) : xW G l m_X13_times xX0 (xPm G Q r_X13_times) 17 (b_X13_times_17 Q) := xo_put (pc := 17) (ci := 12) (i := 0) rfl ok12 (by decide) rfl rfl dX13_times_17 kw1184 <| xo_aload_n (pc := 20) (i := 0) dX13_times_20 rfl <| xo_get (pc := 21) (ci := 12) (i := 1) rfl ok12 (by decide) dX13_times_21 kw1186 <| xo_aload_n (pc := 24) (i := 1) dX13_times_24 rfl <| xo_get (pc := 25) (ci := 12) (i := 1) rfl ok12 (by decide) dX13_times_25 kw1186 <| xo_aload_n (pc := 28) (i := 2) dX13_times_28 rfl <| xo_get (pc := 29) (ci := 12) (i := 1) rfl ok12 (by decide) dX13_times_29 kw1186 <| xo_callV (pc := 32) (np := 2) (ci := 11) rfl (cM_X12_product G l) dX13_times_32 kw1402 kw1399 kw1400 kw1401 kw14 (by decide +kernel) (by decide) <| xo_aload_n (pc := 35) (i := 0) dX13_times_35 rfl <| xo_get (pc := 36) (ci := 12) (i := 2) rfl ok12 (by decide) dX13_times_36 kw1189 <| xo_aload_n (pc := 39) (i := 1) dX13_times_39 rfl <| xo_get (pc := 40) (ci := 12) (i := 2) rfl ok12 (by decide) dX13_times_40 kw1189 <| xo_aload_n (pc := 43) (i := 2) dX13_times_43 rfl <| xo_get (pc := 44) (ci := 12) (i := 2) rfl ok12 (by decide) dX13_times_44 kw1189 <| xo_callV (pc := 47) (np := 2) (ci := 11) rfl (cM_X12_product G l) dX13_times_47 kw1402 kw1399 kw1400 kw1401 kw14 (by decide +kernel) (by decide) <| xo_aload_n (pc := 50) (i := 0) dX13_times_50 rfl <| xo_aload_n (pc := 51) (i := 1) dX13_times_51 rfl <| xo_get (pc := 52) (ci := 12) (i := 3) rfl ok12 (by decide) dX13_times_52 kw1191 <| xo_aload_n (pc := 55) (i := 2) dX13_times_55 rfl <| xo_get (pc := 56) (ci := 12) (i := 3) rfl ok12 (by decide) dX13_times_56 kw1191 <| xo_iadd (pc := 59) dX13_times_59 <| xo_put (pc := 60) (ci := 12) (i := 3) rfl ok12 (by decide) rfl rfl dX13_times_60 kw1191 <| xo_vret (pc := 63) rfl dX13_times_63
theorem s_X13_times_0 (G : xG) (l : Launch) (Q : xQ) : xW G l m_X13_times xX0 (xPm G Q r_X13_times) 0 (b_X13_times_0 Q) := xo_aload_n (pc := 0) (i := 0) dX13_times_0 rfl <| xo_aload_n (pc := 1) (i := 1) dX13_times_1 rfl <| xo_get (pc := 2) (ci := 12) (i := 0) rfl ok12 (by decide) dX13_times_2 kw1184 <| xo_aload_n (pc := 5) (i := 2) dX13_times_5 rfl <| xo_get (pc := 6) (ci := 12) (i := 0) rfl ok12 (by decide) dX13_times_6 kw1184 <| xo_icmp_eq (pc := 9) (tgt := 16) dX13_times_9 (by decide) (xo_iconst (pc := 16) dX13_times_16 (by decide) <| (s_X13_times_17 G l Q)) <| xo_iconst (pc := 12) dX13_times_12 (by decide) <| xo_goto (pc := 13) (tgt := 17) dX13_times_13 (by decide) <| (s_X13_times_17 G l Q)

def C_X13_times : xC := fun av S Q => ∃ (r i j : Nat) (c b1 b2 : Bool) (p' q' p1 q1 p2 q2 : Nat) (e' e1 e2 : Int), av = [.ref r, .ref i, .ref j] ∧ (r + 5 ≤ i ∨ i + 5 ≤ r) ∧ (r + 5 ≤ j ∨ j + 5 ≤ r) ∧ nuR S.1 r c p' q' e' ∧ nuR S.1 i b1 p1 q1 e1 ∧ nuR S.1 j b2 p2 q2 e2 ∧ p1 * p2 < 65536 ^ 639 ∧ q1 * q2 < 65536 ^ 639 ∧ -1000000 ≤ e1 + e2 ∧ e1 + e2 ≤ 1000000 ∧ ∀ h', xoff h' S.1 r (r + 5) → nuR h' r (b1 != b2) (p1 * p2) (q1 * q2) (e1 + e2) → Q none (h', S.2)
theorem cM_X13_times (G : xG) (l : Launch) : xM G l yX13_times cX13_times 3 none r_X13_times C_X13_times := by
  refine xM_of (fun Q => b_X13_times_0 Q) RX13 false (s_X13_times_0 G l) (by decide) rfl (by decide) ?_
  rintro av S Q ⟨r, i, j, c, b1, b2, p', q', p1, q1, p2, q2, e', e1, e2, rfl, d1, d2, ⟨h1, hp', hq', he'⟩, ⟨i1, ip, iq, ie⟩, ⟨j1, jp, jq, je⟩, m1, m2, ee1, ee2, hQ⟩
  refine ⟨Nat.le_of_ble_eq_true rfl, ?_⟩
  have mid : ∀ (b : Bool), b = (b1 != b2) → b_X13_times_17 Q [(0, .ref r), (1, .ref i), (2, .ref j)] [.int (bI b), .ref r] S := by
    intro b hb
    have k1 : xup S.1 r (.inr (12, [.int (bI b), .ref (r + 1), .ref (r + 3), .int (iZ e')])) i = S.1 i := xup_n (by omega)
    have k2 : xup S.1 r (.inr (12, [.int (bI b), .ref (r + 1), .ref (r + 3), .int (iZ e')])) j = S.1 j := xup_n (by omega)
    simp only [x_c, x_iload, x_lload, x_aload, x_istore, x_lstore, x_astore, x_iinc, x_iadd, x_isub, x_imul, x_iand, x_ior, x_ixor, x_ladd, x_lsub, x_lmul, x_land, x_lor, x_lxor, x_idiv, x_irem, x_ldiv, x_lrem, x_ineg, x_lneg, x_ishl, x_ishr, x_iushr, x_lshl, x_lshr, x_lushr, x_i2l, x_l2i, x_i2b, x_i2c, x_lcmp, x_if_eq, x_if_ne, x_if_lt, x_if_ge, x_if_gt, x_if_le, x_icmp_eq, x_icmp_ne, x_icmp_lt, x_icmp_ge, x_icmp_gt, x_icmp_le, x_dup, x_pop, x_dup_x1, x_dup2, x_iret, x_zret, x_lret, x_aret, x_vret, x_call, x_callv, x_calli, x_oinit, x_mmax, x_mmin, x_mabs, x_mmaxL, x_mminL, x_mabsL, lg_cmp_ge, lg_cmp_le, lg_cmp_gt, lg_cmp_lt, lg_cmp_eq, xlk, xs1, xs2, lv_args, Value.category, List.filter_cons, List.filter_nil, Nat.reduceAdd, Nat.reduceBEq, Nat.reduceEqDiff, Nat.reduceSub, Nat.sub_zero, beq_self_eq_true, Bool.not_true, Bool.not_false, Bool.and_true, Bool.and_false, Bool.true_and, Bool.false_and, reduceIte, reduceCtorEq, Bool.false_eq_true, Nat.one_ne_zero, Nat.zero_ne_one, Nat.zero_add, Option.toList_some, Option.toList_none, List.nil_append, List.cons_append, List.take_succ_cons, List.take_zero, List.take_nil, List.drop_succ_cons, List.drop_zero, List.length_cons, List.length_nil, List.reverse_cons, List.reverse_nil, List.head?_cons, List.map_cons, List.map_nil, List.sum_cons, List.sum_nil, true_and, and_true, List.getElem?_cons_zero, List.getElem?_cons_succ, Prod.eta, x_get, x_put, x_iald, x_iast, x_bald, x_bast, x_lald, x_last, x_alen, xup_s, xup_a1, xup_1a, xup_uu, nr_i, nr_l, nr_o, nr_a, ft_i, ft_l, ft_o, ft_a, Nat.reduceLT, i_cl0, i_cl1, i_n1, i_m1, List.set_cons_zero, List.set_cons_succ, Nat.reduceLeDiff, Nat.le_refl, Nat.zero_le, Nat.add_zero, b_X13_times_17, h1, nr_z, ft_z, k1, k2, i1, j1]
    generalize hA : xup S.1 r (.inr (12, [.int (bI b), .ref (r + 1), .ref (r + 3), .int (iZ e')])) = hh at *
    have oA : xoff hh S.1 r (r + 1) := by rw [← hA]; exact off1
    have hr : hh r = some (.inr (12, [.int (bI b), .ref (r + 1), .ref (r + 3), .int (iZ e')])) := by rw [← hA, xup_s]
    have ri := k1.trans i1
    have rj := k2.trans j1
    have pr := hp'.off oA (by omega)
    have qr := hq'.off oA (by omega)
    have ip := ip.off oA (by omega)
    have iq := iq.off oA (by omega)
    have jp := jp.off oA (by omega)
    have jq := jq.off oA (by omega)
    obtain ⟨fs1, o1⟩ := pr.obj
    refine ⟨⟨_, _, rfl, o1⟩, r + 1, i + 1, j + 1, _, _, rfl, by omega, by omega, pr.R, ip, jp, m1, fun h2 oB pB => ?_⟩
    have hr2 := (oB r (by omega)).trans hr
    have ri := (oB i (by omega)).trans ri
    have rj := (oB j (by omega)).trans rj
    have qr := qr.off oB (by omega)
    have iq := iq.off oB (by omega)
    have jq := jq.off oB (by omega)
    simp only [x_c, x_iload, x_lload, x_aload, x_istore, x_lstore, x_astore, x_iinc, x_iadd, x_isub, x_imul, x_iand, x_ior, x_ixor, x_ladd, x_lsub, x_lmul, x_land, x_lor, x_lxor, x_idiv, x_irem, x_ldiv, x_lrem, x_ineg, x_lneg, x_ishl, x_ishr, x_iushr, x_lshl, x_lshr, x_lushr, x_i2l, x_l2i, x_i2b, x_i2c, x_lcmp, x_if_eq, x_if_ne, x_if_lt, x_if_ge, x_if_gt, x_if_le, x_icmp_eq, x_icmp_ne, x_icmp_lt, x_icmp_ge, x_icmp_gt, x_icmp_le, x_dup, x_pop, x_dup_x1, x_dup2, x_iret, x_zret, x_lret, x_aret, x_vret, x_call, x_callv, x_calli, x_oinit, x_mmax, x_mmin, x_mabs, x_mmaxL, x_mminL, x_mabsL, lg_cmp_ge, lg_cmp_le, lg_cmp_gt, lg_cmp_lt, lg_cmp_eq, xlk, xs1, xs2, lv_args, Value.category, List.filter_cons, List.filter_nil, Nat.reduceAdd, Nat.reduceBEq, Nat.reduceEqDiff, Nat.reduceSub, Nat.sub_zero, beq_self_eq_true, Bool.not_true, Bool.not_false, Bool.and_true, Bool.and_false, Bool.true_and, Bool.false_and, reduceIte, reduceCtorEq, Bool.false_eq_true, Nat.one_ne_zero, Nat.zero_ne_one, Nat.zero_add, Option.toList_some, Option.toList_none, List.nil_append, List.cons_append, List.take_succ_cons, List.take_zero, List.take_nil, List.drop_succ_cons, List.drop_zero, List.length_cons, List.length_nil, List.reverse_cons, List.reverse_nil, List.head?_cons, List.map_cons, List.map_nil, List.sum_cons, List.sum_nil, true_and, and_true, List.getElem?_cons_zero, List.getElem?_cons_succ, Prod.eta, x_get, x_put, x_iald, x_iast, x_bald, x_bast, x_lald, x_last, x_alen, xup_s, xup_a1, xup_1a, xup_uu, nr_i, nr_l, nr_o, nr_a, ft_i, ft_l, ft_o, ft_a, Nat.reduceLT, i_cl0, i_cl1, i_n1, i_m1, List.set_cons_zero, List.set_cons_succ, Nat.reduceLeDiff, Nat.le_refl, Nat.zero_le, Nat.add_zero, hr2, ri, rj]
    obtain ⟨fs1, o1⟩ := qr.obj
    refine ⟨⟨_, _, rfl, o1⟩, r + 3, i + 3, j + 3, _, _, rfl, by omega, by omega, qr.R, iq, jq, m2, fun h3 oC qC => ?_⟩
    have hr3 := (oC r (by omega)).trans hr2
    have ri := (oC i (by omega)).trans ri
    have rj := (oC j (by omega)).trans rj
    have pC := pB.off oC (by omega)
    simp only [x_c, x_iload, x_lload, x_aload, x_istore, x_lstore, x_astore, x_iinc, x_iadd, x_isub, x_imul, x_iand, x_ior, x_ixor, x_ladd, x_lsub, x_lmul, x_land, x_lor, x_lxor, x_idiv, x_irem, x_ldiv, x_lrem, x_ineg, x_lneg, x_ishl, x_ishr, x_iushr, x_lshl, x_lshr, x_lushr, x_i2l, x_l2i, x_i2b, x_i2c, x_lcmp, x_if_eq, x_if_ne, x_if_lt, x_if_ge, x_if_gt, x_if_le, x_icmp_eq, x_icmp_ne, x_icmp_lt, x_icmp_ge, x_icmp_gt, x_icmp_le, x_dup, x_pop, x_dup_x1, x_dup2, x_iret, x_zret, x_lret, x_aret, x_vret, x_call, x_callv, x_calli, x_oinit, x_mmax, x_mmin, x_mabs, x_mmaxL, x_mminL, x_mabsL, lg_cmp_ge, lg_cmp_le, lg_cmp_gt, lg_cmp_lt, lg_cmp_eq, xlk, xs1, xs2, lv_args, Value.category, List.filter_cons, List.filter_nil, Nat.reduceAdd, Nat.reduceBEq, Nat.reduceEqDiff, Nat.reduceSub, Nat.sub_zero, beq_self_eq_true, Bool.not_true, Bool.not_false, Bool.and_true, Bool.and_false, Bool.true_and, Bool.false_and, reduceIte, reduceCtorEq, Bool.false_eq_true, Nat.one_ne_zero, Nat.zero_ne_one, Nat.zero_add, Option.toList_some, Option.toList_none, List.nil_append, List.cons_append, List.take_succ_cons, List.take_zero, List.take_nil, List.drop_succ_cons, List.drop_zero, List.length_cons, List.length_nil, List.reverse_cons, List.reverse_nil, List.head?_cons, List.map_cons, List.map_nil, List.sum_cons, List.sum_nil, true_and, and_true, List.getElem?_cons_zero, List.getElem?_cons_succ, Prod.eta, x_get, x_put, x_iald, x_iast, x_bald, x_bast, x_lald, x_last, x_alen, xup_s, xup_a1, xup_1a, xup_uu, nr_i, nr_l, nr_o, nr_a, ft_i, ft_l, ft_o, ft_a, Nat.reduceLT, i_cl0, i_cl1, i_n1, i_m1, List.set_cons_zero, List.set_cons_succ, Nat.reduceLeDiff, Nat.le_refl, Nat.zero_le, Nat.add_zero, hr3, ri, rj, iZ_add]
    exact hQ _ (xoff_up (xoff_tr (xoff_wd oC (by omega) (by omega)) (xoff_tr (xoff_wd oB (by omega) (by omega)) (xoff_wd oA (by omega) (by omega)))) (by omega) (by omega)) ⟨by rw [xup_s, hb], pC.off off1 (by omega), qC.off off1 (by omega), ee1, ee2⟩
  simp only [x_c, x_iload, x_lload, x_aload, x_istore, x_lstore, x_astore, x_iinc, x_iadd, x_isub, x_imul, x_iand, x_ior, x_ixor, x_ladd, x_lsub, x_lmul, x_land, x_lor, x_lxor, x_idiv, x_irem, x_ldiv, x_lrem, x_ineg, x_lneg, x_ishl, x_ishr, x_iushr, x_lshl, x_lshr, x_lushr, x_i2l, x_l2i, x_i2b, x_i2c, x_lcmp, x_if_eq, x_if_ne, x_if_lt, x_if_ge, x_if_gt, x_if_le, x_icmp_eq, x_icmp_ne, x_icmp_lt, x_icmp_ge, x_icmp_gt, x_icmp_le, x_dup, x_pop, x_dup_x1, x_dup2, x_iret, x_zret, x_lret, x_aret, x_vret, x_call, x_callv, x_calli, x_oinit, x_mmax, x_mmin, x_mabs, x_mmaxL, x_mminL, x_mabsL, lg_cmp_ge, lg_cmp_le, lg_cmp_gt, lg_cmp_lt, lg_cmp_eq, xlk, xs1, xs2, lv_args, Value.category, List.filter_cons, List.filter_nil, Nat.reduceAdd, Nat.reduceBEq, Nat.reduceEqDiff, Nat.reduceSub, Nat.sub_zero, beq_self_eq_true, Bool.not_true, Bool.not_false, Bool.and_true, Bool.and_false, Bool.true_and, Bool.false_and, reduceIte, reduceCtorEq, Bool.false_eq_true, Nat.one_ne_zero, Nat.zero_ne_one, Nat.zero_add, Option.toList_some, Option.toList_none, List.nil_append, List.cons_append, List.take_succ_cons, List.take_zero, List.take_nil, List.drop_succ_cons, List.drop_zero, List.length_cons, List.length_nil, List.reverse_cons, List.reverse_nil, List.head?_cons, List.map_cons, List.map_nil, List.sum_cons, List.sum_nil, true_and, and_true, List.getElem?_cons_zero, List.getElem?_cons_succ, Prod.eta, x_get, x_put, x_iald, x_iast, x_bald, x_bast, x_lald, x_last, x_alen, xup_s, xup_a1, xup_1a, xup_uu, nr_i, nr_l, nr_o, nr_a, ft_i, ft_l, ft_o, ft_a, Nat.reduceLT, i_cl0, i_cl1, i_n1, i_m1, List.set_cons_zero, List.set_cons_succ, Nat.reduceLeDiff, Nat.le_refl, Nat.zero_le, Nat.add_zero, b_X13_times_0, i1, j1, bI_inj]
  exact ⟨fun z => mid false (by rw [z]; cases b2 <;> rfl), fun z => mid true (by cases b1 <;> cases b2 <;> first | rfl | exact absurd rfl z)⟩
theorem dX13_over_0 : decode cX13_over 0 = .ok (.aload_n 0, 1) := by decide +kernel
theorem dX13_over_1 : decode cX13_over 1 = .ok (.aload_n 1, 1) := by decide +kernel
theorem dX13_over_2 : decode cX13_over 2 = .ok (.getfield 19, 3) := by decide +kernel
theorem dX13_over_5 : decode cX13_over 5 = .ok (.aload_n 2, 1) := by decide +kernel
theorem dX13_over_6 : decode cX13_over 6 = .ok (.getfield 19, 3) := by decide +kernel
theorem dX13_over_9 : decode cX13_over 9 = .ok (.if_icmp .eq 7, 3) := by decide +kernel
theorem dX13_over_12 : decode cX13_over 12 = .ok (.iconst 1, 1) := by decide +kernel
theorem dX13_over_13 : decode cX13_over 13 = .ok (.goto 4, 3) := by decide +kernel
theorem dX13_over_16 : decode cX13_over 16 = .ok (.iconst 0, 1) := by decide +kernel
theorem dX13_over_17 : decode cX13_over 17 = .ok (.putfield 19, 3) := by decide +kernel
theorem dX13_over_20 : decode cX13_over 20 = .ok (.aload_n 0, 1) := by decide +kernel
theorem dX13_over_21 : decode cX13_over 21 = .ok (.getfield 10, 3) := by decide +kernel
theorem dX13_over_24 : decode cX13_over 24 = .ok (.aload_n 1, 1) := by decide +kernel
theorem dX13_over_25 : decode cX13_over 25 = .ok (.getfield 10, 3) := by decide +kernel
theorem dX13_over_28 : decode cX13_over 28 = .ok (.aload_n 2, 1) := by decide +kernel
theorem dX13_over_29 : decode cX13_over 29 = .ok (.getfield 16, 3) := by decide +kernel
theorem dX13_over_32 : decode cX13_over 32 = .ok (.invokevirtual 44, 3) := by decide +kernel
theorem dX13_over_35 : decode cX13_over 35 = .ok (.aload_n 0, 1) := by decide +kernel
theorem dX13_over_36 : decode cX13_over 36 = .ok (.getfield 16, 3) := by decide +kernel
theorem dX13_over_39 : decode cX13_over 39 = .ok (.aload_n 1, 1) := by decide +kernel
theorem dX13_over_40 : decode cX13_over 40 = .ok (.getfield 16, 3) := by decide +kernel
theorem dX13_over_43 : decode cX13_over 43 = .ok (.aload_n 2, 1) := by decide +kernel
theorem dX13_over_44 : decode cX13_over 44 = .ok (.getfield 10, 3) := by decide +kernel
theorem dX13_over_47 : decode cX13_over 47 = .ok (.invokevirtual 44, 3) := by decide +kernel
theorem dX13_over_50 : decode cX13_over 50 = .ok (.aload_n 0, 1) := by decide +kernel
theorem dX13_over_51 : decode cX13_over 51 = .ok (.aload_n 1, 1) := by decide +kernel
theorem dX13_over_52 : decode cX13_over 52 = .ok (.getfield 27, 3) := by decide +kernel
theorem dX13_over_55 : decode cX13_over 55 = .ok (.aload_n 2, 1) := by decide +kernel
theorem dX13_over_56 : decode cX13_over 56 = .ok (.getfield 27, 3) := by decide +kernel
theorem dX13_over_59 : decode cX13_over 59 = .ok (.isub, 1) := by decide +kernel
theorem dX13_over_60 : decode cX13_over 60 = .ok (.putfield 27, 3) := by decide +kernel
theorem dX13_over_63 : decode cX13_over 63 = .ok (.return_, 1) := by decide +kernel
abbrev r_X13_over : Room := { frames := 2, cells := 0, slots := 0, locals := 48 }
abbrev m_X13_over : xMd := (cX13_over, RX13, 3, none, false, r_X13_over)
def b_X13_over_17 (Q : xQ) : xK := x_put 12 0 .boolean <| x_aload 0 <| x_get 12 1 <| x_aload 1 <| x_get 12 1 <| x_aload 2 <| x_get 12 2 <| x_callv 11 C_X12_product 3 0 0 <| x_aload 0 <| x_get 12 2 <| x_aload 1 <| x_get 12 2 <| x_aload 2 <| x_get 12 1 <| x_callv 11 C_X12_product 3 0 0 <| x_aload 0 <| x_aload 1 <| x_get 12 3 <| x_aload 2 <| x_get 12 3 <| x_isub <| x_put 12 3 .int <| x_vret Q
def b_X13_over_0 (Q : xQ) : xK := x_aload 0 <| x_aload 1 <| x_get 12 0 <| x_aload 2 <| x_get 12 0 <| x_icmp_eq (x_c (.int 0) <| (b_X13_over_17 Q)) <| x_c (.int 1) <| (b_X13_over_17 Q)
theorem s_X13_over_17 (G : xG) (l : Launch) (Q : xQ) : xW G l m_X13_over xX0 (xPm G Q r_X13_over) 17 (b_X13_over_17 Q) := xo_put (pc := 17) (ci := 12) (i := 0) rfl ok12 (by decide) rfl rfl dX13_over_17 kw1184 <| xo_aload_n (pc := 20) (i := 0) dX13_over_20 rfl <| xo_get (pc := 21) (ci := 12) (i := 1) rfl ok12 (by decide) dX13_over_21 kw1186 <| xo_aload_n (pc := 24) (i := 1) dX13_over_24 rfl <| xo_get (pc := 25) (ci := 12) (i := 1) rfl ok12 (by decide) dX13_over_25 kw1186 <| xo_aload_n (pc := 28) (i := 2) dX13_over_28 rfl <| xo_get (pc := 29) (ci := 12) (i := 2) rfl ok12 (by decide) dX13_over_29 kw1189 <| xo_callV (pc := 32) (np := 2) (ci := 11) rfl (cM_X12_product G l) dX13_over_32 kw1402 kw1399 kw1400 kw1401 kw14 (by decide +kernel) (by decide) <| xo_aload_n (pc := 35) (i := 0) dX13_over_35 rfl <| xo_get (pc := 36) (ci := 12) (i := 2) rfl ok12 (by decide) dX13_over_36 kw1189 <| xo_aload_n (pc := 39) (i := 1) dX13_over_39 rfl <| xo_get (pc := 40) (ci := 12) (i := 2) rfl ok12 (by decide) dX13_over_40 kw1189 <| xo_aload_n (pc := 43) (i := 2) dX13_over_43 rfl <| xo_get (pc := 44) (ci := 12) (i := 1) rfl ok12 (by decide) dX13_over_44 kw1186 <| xo_callV (pc := 47) (np := 2) (ci := 11) rfl (cM_X12_product G l) dX13_over_47 kw1402 kw1399 kw1400 kw1401 kw14 (by decide +kernel) (by decide) <| xo_aload_n (pc := 50) (i := 0) dX13_over_50 rfl <| xo_aload_n (pc := 51) (i := 1) dX13_over_51 rfl <| xo_get (pc := 52) (ci := 12) (i := 3) rfl ok12 (by decide) dX13_over_52 kw1191 <| xo_aload_n (pc := 55) (i := 2) dX13_over_55 rfl <| xo_get (pc := 56) (ci := 12) (i := 3) rfl ok12 (by decide) dX13_over_56 kw1191 <| xo_isub (pc := 59) dX13_over_59 <| xo_put (pc := 60) (ci := 12) (i := 3) rfl ok12 (by decide) rfl rfl dX13_over_60 kw1191 <| xo_vret (pc := 63) rfl dX13_over_63
theorem s_X13_over_0 (G : xG) (l : Launch) (Q : xQ) : xW G l m_X13_over xX0 (xPm G Q r_X13_over) 0 (b_X13_over_0 Q) := xo_aload_n (pc := 0) (i := 0) dX13_over_0 rfl <| xo_aload_n (pc := 1) (i := 1) dX13_over_1 rfl <| xo_get (pc := 2) (ci := 12) (i := 0) rfl ok12 (by decide) dX13_over_2 kw1184 <| xo_aload_n (pc := 5) (i := 2) dX13_over_5 rfl <| xo_get (pc := 6) (ci := 12) (i := 0) rfl ok12 (by decide) dX13_over_6 kw1184 <| xo_icmp_eq (pc := 9) (tgt := 16) dX13_over_9 (by decide) (xo_iconst (pc := 16) dX13_over_16 (by decide) <| (s_X13_over_17 G l Q)) <| xo_iconst (pc := 12) dX13_over_12 (by decide) <| xo_goto (pc := 13) (tgt := 17) dX13_over_13 (by decide) <| (s_X13_over_17 G l Q)

def C_X13_over : xC := fun av S Q => ∃ (r i j : Nat) (c b1 b2 : Bool) (p' q' p1 q1 p2 q2 : Nat) (e' e1 e2 : Int), av = [.ref r, .ref i, .ref j] ∧ (r + 5 ≤ i ∨ i + 5 ≤ r) ∧ (r + 5 ≤ j ∨ j + 5 ≤ r) ∧ nuR S.1 r c p' q' e' ∧ nuR S.1 i b1 p1 q1 e1 ∧ nuR S.1 j b2 p2 q2 e2 ∧ p1 * q2 < 65536 ^ 639 ∧ q1 * p2 < 65536 ^ 639 ∧ -1000000 ≤ e1 - e2 ∧ e1 - e2 ≤ 1000000 ∧ ∀ h', xoff h' S.1 r (r + 5) → nuR h' r (b1 != b2) (p1 * q2) (q1 * p2) (e1 - e2) → Q none (h', S.2)
theorem cM_X13_over (G : xG) (l : Launch) : xM G l yX13_over cX13_over 3 none r_X13_over C_X13_over := by
  refine xM_of (fun Q => b_X13_over_0 Q) RX13 false (s_X13_over_0 G l) (by decide) rfl (by decide) ?_
  rintro av S Q ⟨r, i, j, c, b1, b2, p', q', p1, q1, p2, q2, e', e1, e2, rfl, d1, d2, ⟨h1, hp', hq', he'⟩, ⟨i1, ip, iq, ie⟩, ⟨j1, jp, jq, je⟩, m1, m2, ee1, ee2, hQ⟩
  refine ⟨Nat.le_of_ble_eq_true rfl, ?_⟩
  have mid : ∀ (b : Bool), b = (b1 != b2) → b_X13_over_17 Q [(0, .ref r), (1, .ref i), (2, .ref j)] [.int (bI b), .ref r] S := by
    intro b hb
    have k1 : xup S.1 r (.inr (12, [.int (bI b), .ref (r + 1), .ref (r + 3), .int (iZ e')])) i = S.1 i := xup_n (by omega)
    have k2 : xup S.1 r (.inr (12, [.int (bI b), .ref (r + 1), .ref (r + 3), .int (iZ e')])) j = S.1 j := xup_n (by omega)
    simp only [x_c, x_iload, x_lload, x_aload, x_istore, x_lstore, x_astore, x_iinc, x_iadd, x_isub, x_imul, x_iand, x_ior, x_ixor, x_ladd, x_lsub, x_lmul, x_land, x_lor, x_lxor, x_idiv, x_irem, x_ldiv, x_lrem, x_ineg, x_lneg, x_ishl, x_ishr, x_iushr, x_lshl, x_lshr, x_lushr, x_i2l, x_l2i, x_i2b, x_i2c, x_lcmp, x_if_eq, x_if_ne, x_if_lt, x_if_ge, x_if_gt, x_if_le, x_icmp_eq, x_icmp_ne, x_icmp_lt, x_icmp_ge, x_icmp_gt, x_icmp_le, x_dup, x_pop, x_dup_x1, x_dup2, x_iret, x_zret, x_lret, x_aret, x_vret, x_call, x_callv, x_calli, x_oinit, x_mmax, x_mmin, x_mabs, x_mmaxL, x_mminL, x_mabsL, lg_cmp_ge, lg_cmp_le, lg_cmp_gt, lg_cmp_lt, lg_cmp_eq, xlk, xs1, xs2, lv_args, Value.category, List.filter_cons, List.filter_nil, Nat.reduceAdd, Nat.reduceBEq, Nat.reduceEqDiff, Nat.reduceSub, Nat.sub_zero, beq_self_eq_true, Bool.not_true, Bool.not_false, Bool.and_true, Bool.and_false, Bool.true_and, Bool.false_and, reduceIte, reduceCtorEq, Bool.false_eq_true, Nat.one_ne_zero, Nat.zero_ne_one, Nat.zero_add, Option.toList_some, Option.toList_none, List.nil_append, List.cons_append, List.take_succ_cons, List.take_zero, List.take_nil, List.drop_succ_cons, List.drop_zero, List.length_cons, List.length_nil, List.reverse_cons, List.reverse_nil, List.head?_cons, List.map_cons, List.map_nil, List.sum_cons, List.sum_nil, true_and, and_true, List.getElem?_cons_zero, List.getElem?_cons_succ, Prod.eta, x_get, x_put, x_iald, x_iast, x_bald, x_bast, x_lald, x_last, x_alen, xup_s, xup_a1, xup_1a, xup_uu, nr_i, nr_l, nr_o, nr_a, ft_i, ft_l, ft_o, ft_a, Nat.reduceLT, i_cl0, i_cl1, i_n1, i_m1, List.set_cons_zero, List.set_cons_succ, Nat.reduceLeDiff, Nat.le_refl, Nat.zero_le, Nat.add_zero, b_X13_over_17, h1, nr_z, ft_z, k1, k2, i1, j1]
    generalize hA : xup S.1 r (.inr (12, [.int (bI b), .ref (r + 1), .ref (r + 3), .int (iZ e')])) = hh at *
    have oA : xoff hh S.1 r (r + 1) := by rw [← hA]; exact off1
    have hr : hh r = some (.inr (12, [.int (bI b), .ref (r + 1), .ref (r + 3), .int (iZ e')])) := by rw [← hA, xup_s]
    have ri := k1.trans i1
    have rj := k2.trans j1
    have pr := hp'.off oA (by omega)
    have qr := hq'.off oA (by omega)
    have ip := ip.off oA (by omega)
    have iq := iq.off oA (by omega)
    have jp := jp.off oA (by omega)
    have jq := jq.off oA (by omega)
    obtain ⟨fs1, o1⟩ := pr.obj
    refine ⟨⟨_, _, rfl, o1⟩, r + 1, i + 1, j + 3, _, _, rfl, by omega, by omega, pr.R, ip, jq, m1, fun h2 oB pB => ?_⟩
    have hr2 := (oB r (by omega)).trans hr
    have ri := (oB i (by omega)).trans ri
    have rj := (oB j (by omega)).trans rj
    have qr := qr.off oB (by omega)
    have iq := iq.off oB (by omega)
    have jp := jp.off oB (by omega)
    simp only [x_c, x_iload, x_lload, x_aload, x_istore, x_lstore, x_astore, x_iinc, x_iadd, x_isub, x_imul, x_iand, x_ior, x_ixor, x_ladd, x_lsub, x_lmul, x_land, x_lor, x_lxor, x_idiv, x_irem, x_ldiv, x_lrem, x_ineg, x_lneg, x_ishl, x_ishr, x_iushr, x_lshl, x_lshr, x_lushr, x_i2l, x_l2i, x_i2b, x_i2c, x_lcmp, x_if_eq, x_if_ne, x_if_lt, x_if_ge, x_if_gt, x_if_le, x_icmp_eq, x_icmp_ne, x_icmp_lt, x_icmp_ge, x_icmp_gt, x_icmp_le, x_dup, x_pop, x_dup_x1, x_dup2, x_iret, x_zret, x_lret, x_aret, x_vret, x_call, x_callv, x_calli, x_oinit, x_mmax, x_mmin, x_mabs, x_mmaxL, x_mminL, x_mabsL, lg_cmp_ge, lg_cmp_le, lg_cmp_gt, lg_cmp_lt, lg_cmp_eq, xlk, xs1, xs2, lv_args, Value.category, List.filter_cons, List.filter_nil, Nat.reduceAdd, Nat.reduceBEq, Nat.reduceEqDiff, Nat.reduceSub, Nat.sub_zero, beq_self_eq_true, Bool.not_true, Bool.not_false, Bool.and_true, Bool.and_false, Bool.true_and, Bool.false_and, reduceIte, reduceCtorEq, Bool.false_eq_true, Nat.one_ne_zero, Nat.zero_ne_one, Nat.zero_add, Option.toList_some, Option.toList_none, List.nil_append, List.cons_append, List.take_succ_cons, List.take_zero, List.take_nil, List.drop_succ_cons, List.drop_zero, List.length_cons, List.length_nil, List.reverse_cons, List.reverse_nil, List.head?_cons, List.map_cons, List.map_nil, List.sum_cons, List.sum_nil, true_and, and_true, List.getElem?_cons_zero, List.getElem?_cons_succ, Prod.eta, x_get, x_put, x_iald, x_iast, x_bald, x_bast, x_lald, x_last, x_alen, xup_s, xup_a1, xup_1a, xup_uu, nr_i, nr_l, nr_o, nr_a, ft_i, ft_l, ft_o, ft_a, Nat.reduceLT, i_cl0, i_cl1, i_n1, i_m1, List.set_cons_zero, List.set_cons_succ, Nat.reduceLeDiff, Nat.le_refl, Nat.zero_le, Nat.add_zero, hr2, ri, rj]
    obtain ⟨fs1, o1⟩ := qr.obj
    refine ⟨⟨_, _, rfl, o1⟩, r + 3, i + 3, j + 1, _, _, rfl, by omega, by omega, qr.R, iq, jp, m2, fun h3 oC qC => ?_⟩
    have hr3 := (oC r (by omega)).trans hr2
    have ri := (oC i (by omega)).trans ri
    have rj := (oC j (by omega)).trans rj
    have pC := pB.off oC (by omega)
    simp only [x_c, x_iload, x_lload, x_aload, x_istore, x_lstore, x_astore, x_iinc, x_iadd, x_isub, x_imul, x_iand, x_ior, x_ixor, x_ladd, x_lsub, x_lmul, x_land, x_lor, x_lxor, x_idiv, x_irem, x_ldiv, x_lrem, x_ineg, x_lneg, x_ishl, x_ishr, x_iushr, x_lshl, x_lshr, x_lushr, x_i2l, x_l2i, x_i2b, x_i2c, x_lcmp, x_if_eq, x_if_ne, x_if_lt, x_if_ge, x_if_gt, x_if_le, x_icmp_eq, x_icmp_ne, x_icmp_lt, x_icmp_ge, x_icmp_gt, x_icmp_le, x_dup, x_pop, x_dup_x1, x_dup2, x_iret, x_zret, x_lret, x_aret, x_vret, x_call, x_callv, x_calli, x_oinit, x_mmax, x_mmin, x_mabs, x_mmaxL, x_mminL, x_mabsL, lg_cmp_ge, lg_cmp_le, lg_cmp_gt, lg_cmp_lt, lg_cmp_eq, xlk, xs1, xs2, lv_args, Value.category, List.filter_cons, List.filter_nil, Nat.reduceAdd, Nat.reduceBEq, Nat.reduceEqDiff, Nat.reduceSub, Nat.sub_zero, beq_self_eq_true, Bool.not_true, Bool.not_false, Bool.and_true, Bool.and_false, Bool.true_and, Bool.false_and, reduceIte, reduceCtorEq, Bool.false_eq_true, Nat.one_ne_zero, Nat.zero_ne_one, Nat.zero_add, Option.toList_some, Option.toList_none, List.nil_append, List.cons_append, List.take_succ_cons, List.take_zero, List.take_nil, List.drop_succ_cons, List.drop_zero, List.length_cons, List.length_nil, List.reverse_cons, List.reverse_nil, List.head?_cons, List.map_cons, List.map_nil, List.sum_cons, List.sum_nil, true_and, and_true, List.getElem?_cons_zero, List.getElem?_cons_succ, Prod.eta, x_get, x_put, x_iald, x_iast, x_bald, x_bast, x_lald, x_last, x_alen, xup_s, xup_a1, xup_1a, xup_uu, nr_i, nr_l, nr_o, nr_a, ft_i, ft_l, ft_o, ft_a, Nat.reduceLT, i_cl0, i_cl1, i_n1, i_m1, List.set_cons_zero, List.set_cons_succ, Nat.reduceLeDiff, Nat.le_refl, Nat.zero_le, Nat.add_zero, hr3, ri, rj, iZ_sub]
    exact hQ _ (xoff_up (xoff_tr (xoff_wd oC (by omega) (by omega)) (xoff_tr (xoff_wd oB (by omega) (by omega)) (xoff_wd oA (by omega) (by omega)))) (by omega) (by omega)) ⟨by rw [xup_s, hb], pC.off off1 (by omega), qC.off off1 (by omega), ee1, ee2⟩
  simp only [x_c, x_iload, x_lload, x_aload, x_istore, x_lstore, x_astore, x_iinc, x_iadd, x_isub, x_imul, x_iand, x_ior, x_ixor, x_ladd, x_lsub, x_lmul, x_land, x_lor, x_lxor, x_idiv, x_irem, x_ldiv, x_lrem, x_ineg, x_lneg, x_ishl, x_ishr, x_iushr, x_lshl, x_lshr, x_lushr, x_i2l, x_l2i, x_i2b, x_i2c, x_lcmp, x_if_eq, x_if_ne, x_if_lt, x_if_ge, x_if_gt, x_if_le, x_icmp_eq, x_icmp_ne, x_icmp_lt, x_icmp_ge, x_icmp_gt, x_icmp_le, x_dup, x_pop, x_dup_x1, x_dup2, x_iret, x_zret, x_lret, x_aret, x_vret, x_call, x_callv, x_calli, x_oinit, x_mmax, x_mmin, x_mabs, x_mmaxL, x_mminL, x_mabsL, lg_cmp_ge, lg_cmp_le, lg_cmp_gt, lg_cmp_lt, lg_cmp_eq, xlk, xs1, xs2, lv_args, Value.category, List.filter_cons, List.filter_nil, Nat.reduceAdd, Nat.reduceBEq, Nat.reduceEqDiff, Nat.reduceSub, Nat.sub_zero, beq_self_eq_true, Bool.not_true, Bool.not_false, Bool.and_true, Bool.and_false, Bool.true_and, Bool.false_and, reduceIte, reduceCtorEq, Bool.false_eq_true, Nat.one_ne_zero, Nat.zero_ne_one, Nat.zero_add, Option.toList_some, Option.toList_none, List.nil_append, List.cons_append, List.take_succ_cons, List.take_zero, List.take_nil, List.drop_succ_cons, List.drop_zero, List.length_cons, List.length_nil, List.reverse_cons, List.reverse_nil, List.head?_cons, List.map_cons, List.map_nil, List.sum_cons, List.sum_nil, true_and, and_true, List.getElem?_cons_zero, List.getElem?_cons_succ, Prod.eta, x_get, x_put, x_iald, x_iast, x_bald, x_bast, x_lald, x_last, x_alen, xup_s, xup_a1, xup_1a, xup_uu, nr_i, nr_l, nr_o, nr_a, ft_i, ft_l, ft_o, ft_a, Nat.reduceLT, i_cl0, i_cl1, i_n1, i_m1, List.set_cons_zero, List.set_cons_succ, Nat.reduceLeDiff, Nat.le_refl, Nat.zero_le, Nat.add_zero, b_X13_over_0, i1, j1, bI_inj]
  exact ⟨fun z => mid false (by rw [z]; cases b2 <;> rfl), fun z => mid true (by cases b1 <;> cases b2 <;> first | rfl | exact absurd rfl z)⟩
