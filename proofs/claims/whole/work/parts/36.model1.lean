/-! the reference: floats by their orders; the state of its reckoning -/
def oF (k : Int) : Prop := -9223372036854775808 < k ∧ k < 9223372036854775808
def ordB (u : Nat) : Int := if 2 ^ 63 ≤ u then -((u - 2 ^ 63 : Nat) : Int) else (u : Int)
theorem ordB_foB {k : Int} (h : oF k) : ordB (foB k) = k := by
  obtain ⟨h1, h2⟩ := h
  unfold ordB foB
  split <;> split <;> omega
theorem ordB_oF {u : Nat} (h : u < 2 ^ 64) : oF (ordB u) := by
  unfold ordB oF
  split <;> omega
theorem lN_lt0 {u : Nat} (h : u < 2 ^ 64) : (0 : Int64) ≤ lN u ↔ ¬ 2 ^ 63 ≤ u := by
  rw [l_le, lN_ti h, show (0 : Int64).toInt = 0 by decide]
  split <;> omega
theorem lN_m63 {u : Nat} (h : u < 2 ^ 64) : lN u &&& 9223372036854775807 = lN (u % 2 ^ 63) := wb_mask (k := 63) h (by decide)
theorem lZ_inj {a b : Int} (ha : oF a) (hb : oF b) : lZ a = lZ b ↔ a = b := by
  obtain ⟨a1, a2⟩ := ha
  obtain ⟨b1, b2⟩ := hb
  refine ⟨fun h => ?_, fun h => by rw [h]⟩
  have := congrArg Int64.toInt h
  rwa [lZ_toInt (by omega) a2, lZ_toInt (by omega) b2] at this
theorem lZ_ltI {a b : Int} (ha : oF a) (hb : oF b) : lZ a < lZ b ↔ a < b := by
  rw [l_lt, lZ_toInt (by have := ha.1; omega) ha.2, lZ_toInt (by have := hb.1; omega) hb.2]
theorem lZ_leI {a b : Int} (ha : oF a) (hb : oF b) : lZ a ≤ lZ b ↔ a ≤ b := by
  rw [l_le, lZ_toInt (by have := ha.1; omega) ha.2, lZ_toInt (by have := hb.1; omega) hb.2]
theorem dX14_order_0 : decode cX14_order 0 = .ok (.lload_n 0, 1) := by decide +kernel
theorem dX14_order_1 : decode cX14_order 1 = .ok (.lconst 0, 1) := by decide +kernel
theorem dX14_order_2 : decode cX14_order 2 = .ok (.lcmp, 1) := by decide +kernel
theorem dX14_order_3 : decode cX14_order 3 = .ok (.ifCond .ge 12, 3) := by decide +kernel
theorem dX14_order_6 : decode cX14_order 6 = .ok (.lload_n 0, 1) := by decide +kernel
theorem dX14_order_7 : decode cX14_order 7 = .ok (.ldc2_w 55, 3) := by decide +kernel
theorem dX14_order_10 : decode cX14_order 10 = .ok (.land, 1) := by decide +kernel
theorem dX14_order_11 : decode cX14_order 11 = .ok (.lneg, 1) := by decide +kernel
theorem dX14_order_12 : decode cX14_order 12 = .ok (.goto 4, 3) := by decide +kernel
theorem dX14_order_15 : decode cX14_order 15 = .ok (.lload_n 0, 1) := by decide +kernel
theorem dX14_order_16 : decode cX14_order 16 = .ok (.lreturn, 1) := by decide +kernel
abbrev r_X14_order : Room := { frames := 0, cells := 0, slots := 0, locals := 0 }
abbrev m_X14_order : xMd := (cX14_order, RX14, 2, (some FieldType.long), false, r_X14_order)
def b_X14_order_16 (Q : xQ) : xK := x_lret Q
def b_X14_order_0 (Q : xQ) : xK := x_lload 0 <| x_c (.long 0) <| x_lcmp <| x_if_ge (x_lload 0 <| (b_X14_order_16 Q)) <| x_lload 0 <| x_c (.long 9223372036854775807) <| x_land <| x_lneg <| (b_X14_order_16 Q)
theorem s_X14_order_16 (G : xG) (l : Launch) (Q : xQ) : xW G l m_X14_order xX0 (xPm G Q r_X14_order) 16 (b_X14_order_16 Q) := xo_lret (pc := 16) rfl dX14_order_16
theorem s_X14_order_0 (G : xG) (l : Launch) (Q : xQ) : xW G l m_X14_order xX0 (xPm G Q r_X14_order) 0 (b_X14_order_0 Q) := xo_lload_n (pc := 0) (i := 0) dX14_order_0 rfl <| xo_lconst (pc := 1) dX14_order_1 (by decide) <| xo_lcmp (pc := 2) dX14_order_2 <| xo_if_ge (pc := 3) (tgt := 15) dX14_order_3 (by decide) (xo_lload_n (pc := 15) (i := 0) dX14_order_15 rfl <| (s_X14_order_16 G l Q)) <| xo_lload_n (pc := 6) (i := 0) dX14_order_6 rfl <| xo_ldc2_w (pc := 7) dX14_order_7 kw1303 <| xo_land (pc := 10) dX14_order_10 <| xo_lneg (pc := 11) dX14_order_11 <| xo_goto (pc := 12) (tgt := 16) dX14_order_12 (by decide) <| (s_X14_order_16 G l Q)

def C_X14_order : xC := fun av S Q => ∃ u : Nat, av = [.long (lN u)] ∧ u < 2 ^ 64 ∧ Q (some (.long (lZ (ordB u)))) S
theorem cM_X14_order (G : xG) (l : Launch) : xM G l yX14_order cX14_order 2 (some FieldType.long) r_X14_order C_X14_order := by
  refine xM_of (fun Q => b_X14_order_0 Q) RX14 false (s_X14_order_0 G l) (by decide) rfl (by decide) ?_
  rintro av S Q ⟨u, rfl, hu, hQ⟩
  refine ⟨Nat.le_of_ble_eq_true rfl, ?_⟩
  have e1 : -lN (u % 2 ^ 63) = lZ (-((u % 2 ^ 63 : Nat) : Int)) := by rw [← lZ_nat, lZ_neg]
  simp only [x_c, x_iload, x_lload, x_aload, x_istore, x_lstore, x_astore, x_iinc, x_iadd, x_isub, x_imul, x_iand, x_ior, x_ixor, x_ladd, x_lsub, x_lmul, x_land, x_lor, x_lxor, x_idiv, x_irem, x_ldiv, x_lrem, x_ineg, x_lneg, x_ishl, x_ishr, x_iushr, x_lshl, x_lshr, x_lushr, x_i2l, x_l2i, x_i2b, x_i2c, x_lcmp, x_if_eq, x_if_ne, x_if_lt, x_if_ge, x_if_gt, x_if_le, x_icmp_eq, x_icmp_ne, x_icmp_lt, x_icmp_ge, x_icmp_gt, x_icmp_le, x_dup, x_pop, x_dup_x1, x_dup2, x_iret, x_zret, x_lret, x_aret, x_vret, x_call, x_callv, x_calli, x_oinit, x_mmax, x_mmin, x_mabs, x_mmaxL, x_mminL, x_mabsL, lg_cmp_ge, lg_cmp_le, lg_cmp_gt, lg_cmp_lt, lg_cmp_eq, xlk, xs1, xs2, lv_args, Value.category, List.filter_cons, List.filter_nil, Nat.reduceAdd, Nat.reduceBEq, Nat.reduceEqDiff, Nat.reduceSub, Nat.sub_zero, beq_self_eq_true, Bool.not_true, Bool.not_false, Bool.and_true, Bool.and_false, Bool.true_and, Bool.false_and, reduceIte, reduceCtorEq, Bool.false_eq_true, Nat.one_ne_zero, Nat.zero_ne_one, Nat.zero_add, Option.toList_some, Option.toList_none, List.nil_append, List.cons_append, List.take_succ_cons, List.take_zero, List.take_nil, List.drop_succ_cons, List.drop_zero, List.length_cons, List.length_nil, List.reverse_cons, List.reverse_nil, List.head?_cons, List.map_cons, List.map_nil, List.sum_cons, List.sum_nil, true_and, and_true, List.getElem?_cons_zero, List.getElem?_cons_succ, Prod.eta, x_get, x_put, x_iald, x_iast, x_bald, x_bast, x_lald, x_last, x_alen, xup_s, xup_a1, xup_1a, xup_uu, nr_i, nr_l, nr_o, nr_a, ft_i, ft_l, ft_o, ft_a, Nat.reduceLT, i_cl0, i_cl1, i_n1, i_m1, List.set_cons_zero, List.set_cons_succ, Nat.reduceLeDiff, Nat.le_refl, Nat.zero_le, Nat.add_zero, x_no, x_ifnull, x_ifnonnull, x_acmp_eq, x_acmp_ne, x_swl, x_tsw, x_castC, true_or, or_true, nr_z, ft_z, nr_z0, nr_z1, ft_z0, ft_z1, nr_on, nr_an, ft_on, ft_an, b_X14_order_0, b_X14_order_16, lN_lt0 hu, lN_m63 hu, e1]
  refine ⟨fun z => ?_, fun z => ?_⟩
  · have : ordB u = u := if_neg z
    rw [this] at hQ
    exact hQ
  · have : ordB u = -((u % 2 ^ 63 : Nat) : Int) := by
      unfold ordB
      split <;> omega
    rw [this] at hQ
    exact hQ
def iN (k : Int) : Bool := decide (k = 9218868437227405312 ∨ k = -9218868437227405312)
theorem dX14_isInfinite_0 : decode cX14_isInfinite 0 = .ok (.lload_n 0, 1) := by decide +kernel
theorem dX14_isInfinite_1 : decode cX14_isInfinite 1 = .ok (.ldc2_w 55, 3) := by decide +kernel
theorem dX14_isInfinite_4 : decode cX14_isInfinite 4 = .ok (.land, 1) := by decide +kernel
theorem dX14_isInfinite_5 : decode cX14_isInfinite 5 = .ok (.ldc2_w 61, 3) := by decide +kernel
theorem dX14_isInfinite_8 : decode cX14_isInfinite 8 = .ok (.lcmp, 1) := by decide +kernel
theorem dX14_isInfinite_9 : decode cX14_isInfinite 9 = .ok (.ifCond .ne 7, 3) := by decide +kernel
theorem dX14_isInfinite_12 : decode cX14_isInfinite 12 = .ok (.iconst 1, 1) := by decide +kernel
theorem dX14_isInfinite_13 : decode cX14_isInfinite 13 = .ok (.goto 4, 3) := by decide +kernel
theorem dX14_isInfinite_16 : decode cX14_isInfinite 16 = .ok (.iconst 0, 1) := by decide +kernel
theorem dX14_isInfinite_17 : decode cX14_isInfinite 17 = .ok (.ireturn, 1) := by decide +kernel
abbrev r_X14_isInfinite : Room := { frames := 0, cells := 0, slots := 0, locals := 0 }
abbrev m_X14_isInfinite : xMd := (cX14_isInfinite, RX14, 2, (some FieldType.boolean), false, r_X14_isInfinite)
def b_X14_isInfinite_17 (Q : xQ) : xK := x_zret FieldType.boolean Q
def b_X14_isInfinite_0 (Q : xQ) : xK := x_lload 0 <| x_c (.long 9223372036854775807) <| x_land <| x_c (.long 9218868437227405312) <| x_lcmp <| x_if_ne (x_c (.int 0) <| (b_X14_isInfinite_17 Q)) <| x_c (.int 1) <| (b_X14_isInfinite_17 Q)
theorem s_X14_isInfinite_17 (G : xG) (l : Launch) (Q : xQ) : xW G l m_X14_isInfinite xX0 (xPm G Q r_X14_isInfinite) 17 (b_X14_isInfinite_17 Q) := xo_zret (pc := 17) rfl dX14_isInfinite_17
theorem s_X14_isInfinite_0 (G : xG) (l : Launch) (Q : xQ) : xW G l m_X14_isInfinite xX0 (xPm G Q r_X14_isInfinite) 0 (b_X14_isInfinite_0 Q) := xo_lload_n (pc := 0) (i := 0) dX14_isInfinite_0 rfl <| xo_ldc2_w (pc := 1) dX14_isInfinite_1 kw1303 <| xo_land (pc := 4) dX14_isInfinite_4 <| xo_ldc2_w (pc := 5) dX14_isInfinite_5 kw1304 <| xo_lcmp (pc := 8) dX14_isInfinite_8 <| xo_if_ne (pc := 9) (tgt := 16) dX14_isInfinite_9 (by decide) (xo_iconst (pc := 16) dX14_isInfinite_16 (by decide) <| (s_X14_isInfinite_17 G l Q)) <| xo_iconst (pc := 12) dX14_isInfinite_12 (by decide) <| xo_goto (pc := 13) (tgt := 17) dX14_isInfinite_13 (by decide) <| (s_X14_isInfinite_17 G l Q)

def C_X14_isInfinite : xC := fun av S Q => ∃ u : Nat, av = [.long (lN u)] ∧ u < 2 ^ 64 ∧ Q (some (.int (bI (iN (ordB u))))) S
theorem cM_X14_isInfinite (G : xG) (l : Launch) : xM G l yX14_isInfinite cX14_isInfinite 2 (some FieldType.boolean) r_X14_isInfinite C_X14_isInfinite := by
  refine xM_of (fun Q => b_X14_isInfinite_0 Q) RX14 false (s_X14_isInfinite_0 G l) (by decide) rfl (by decide) ?_
  rintro av S Q ⟨u, rfl, hu, hQ⟩
  refine ⟨Nat.le_of_ble_eq_true rfl, ?_⟩
  have e1 : lN (u % 2 ^ 63) = 9218868437227405312 ↔ u % 2 ^ 63 = 9218868437227405312 := pk_lEQ (b := 9218868437227405312) (by omega) (by decide)
  simp only [x_c, x_iload, x_lload, x_aload, x_istore, x_lstore, x_astore, x_iinc, x_iadd, x_isub, x_imul, x_iand, x_ior, x_ixor, x_ladd, x_lsub, x_lmul, x_land, x_lor, x_lxor, x_idiv, x_irem, x_ldiv, x_lrem, x_ineg, x_lneg, x_ishl, x_ishr, x_iushr, x_lshl, x_lshr, x_lushr, x_i2l, x_l2i, x_i2b, x_i2c, x_lcmp, x_if_eq, x_if_ne, x_if_lt, x_if_ge, x_if_gt, x_if_le, x_icmp_eq, x_icmp_ne, x_icmp_lt, x_icmp_ge, x_icmp_gt, x_icmp_le, x_dup, x_pop, x_dup_x1, x_dup2, x_iret, x_zret, x_lret, x_aret, x_vret, x_call, x_callv, x_calli, x_oinit, x_mmax, x_mmin, x_mabs, x_mmaxL, x_mminL, x_mabsL, lg_cmp_ge, lg_cmp_le, lg_cmp_gt, lg_cmp_lt, lg_cmp_eq, xlk, xs1, xs2, lv_args, Value.category, List.filter_cons, List.filter_nil, Nat.reduceAdd, Nat.reduceBEq, Nat.reduceEqDiff, Nat.reduceSub, Nat.sub_zero, beq_self_eq_true, Bool.not_true, Bool.not_false, Bool.and_true, Bool.and_false, Bool.true_and, Bool.false_and, reduceIte, reduceCtorEq, Bool.false_eq_true, Nat.one_ne_zero, Nat.zero_ne_one, Nat.zero_add, Option.toList_some, Option.toList_none, List.nil_append, List.cons_append, List.take_succ_cons, List.take_zero, List.take_nil, List.drop_succ_cons, List.drop_zero, List.length_cons, List.length_nil, List.reverse_cons, List.reverse_nil, List.head?_cons, List.map_cons, List.map_nil, List.sum_cons, List.sum_nil, true_and, and_true, List.getElem?_cons_zero, List.getElem?_cons_succ, Prod.eta, x_get, x_put, x_iald, x_iast, x_bald, x_bast, x_lald, x_last, x_alen, xup_s, xup_a1, xup_1a, xup_uu, nr_i, nr_l, nr_o, nr_a, ft_i, ft_l, ft_o, ft_a, Nat.reduceLT, i_cl0, i_cl1, i_n1, i_m1, List.set_cons_zero, List.set_cons_succ, Nat.reduceLeDiff, Nat.le_refl, Nat.zero_le, Nat.add_zero, x_no, x_ifnull, x_ifnonnull, x_acmp_eq, x_acmp_ne, x_swl, x_tsw, x_castC, true_or, or_true, nr_z, ft_z, nr_z0, nr_z1, ft_z0, ft_z1, nr_on, nr_an, ft_on, ft_an, b_X14_isInfinite_0, b_X14_isInfinite_17, lN_m63 hu, e1]
  have e2 : iN (ordB u) = decide (u % 2 ^ 63 = 9218868437227405312) := by
    unfold iN ordB
    rw [decide_eq_decide]
    split <;> omega
  rw [e2] at hQ
  refine ⟨fun z => ?_, fun z => ?_⟩
  · rw [decide_eq_false z] at hQ
    exact hQ
  · rw [decide_eq_true z] at hQ
    exact hQ
theorem dX14_plainZero_0 : decode cX14_plainZero 0 = .ok (.lload_n 0, 1) := by decide +kernel
theorem dX14_plainZero_1 : decode cX14_plainZero 1 = .ok (.ldc2_w 55, 3) := by decide +kernel
theorem dX14_plainZero_4 : decode cX14_plainZero 4 = .ok (.land, 1) := by decide +kernel
theorem dX14_plainZero_5 : decode cX14_plainZero 5 = .ok (.lconst 0, 1) := by decide +kernel
theorem dX14_plainZero_6 : decode cX14_plainZero 6 = .ok (.lcmp, 1) := by decide +kernel
theorem dX14_plainZero_7 : decode cX14_plainZero 7 = .ok (.ifCond .ne 7, 3) := by decide +kernel
theorem dX14_plainZero_10 : decode cX14_plainZero 10 = .ok (.lconst 0, 1) := by decide +kernel
theorem dX14_plainZero_11 : decode cX14_plainZero 11 = .ok (.goto 4, 3) := by decide +kernel
theorem dX14_plainZero_14 : decode cX14_plainZero 14 = .ok (.lload_n 0, 1) := by decide +kernel
theorem dX14_plainZero_15 : decode cX14_plainZero 15 = .ok (.lreturn, 1) := by decide +kernel
abbrev r_X14_plainZero : Room := { frames := 0, cells := 0, slots := 0, locals := 0 }
abbrev m_X14_plainZero : xMd := (cX14_plainZero, RX14, 2, (some FieldType.long), false, r_X14_plainZero)
def b_X14_plainZero_15 (Q : xQ) : xK := x_lret Q
def b_X14_plainZero_0 (Q : xQ) : xK := x_lload 0 <| x_c (.long 9223372036854775807) <| x_land <| x_c (.long 0) <| x_lcmp <| x_if_ne (x_lload 0 <| (b_X14_plainZero_15 Q)) <| x_c (.long 0) <| (b_X14_plainZero_15 Q)
theorem s_X14_plainZero_15 (G : xG) (l : Launch) (Q : xQ) : xW G l m_X14_plainZero xX0 (xPm G Q r_X14_plainZero) 15 (b_X14_plainZero_15 Q) := xo_lret (pc := 15) rfl dX14_plainZero_15
theorem s_X14_plainZero_0 (G : xG) (l : Launch) (Q : xQ) : xW G l m_X14_plainZero xX0 (xPm G Q r_X14_plainZero) 0 (b_X14_plainZero_0 Q) := xo_lload_n (pc := 0) (i := 0) dX14_plainZero_0 rfl <| xo_ldc2_w (pc := 1) dX14_plainZero_1 kw1303 <| xo_land (pc := 4) dX14_plainZero_4 <| xo_lconst (pc := 5) dX14_plainZero_5 (by decide) <| xo_lcmp (pc := 6) dX14_plainZero_6 <| xo_if_ne (pc := 7) (tgt := 14) dX14_plainZero_7 (by decide) (xo_lload_n (pc := 14) (i := 0) dX14_plainZero_14 rfl <| (s_X14_plainZero_15 G l Q)) <| xo_lconst (pc := 10) dX14_plainZero_10 (by decide) <| xo_goto (pc := 11) (tgt := 15) dX14_plainZero_11 (by decide) <| (s_X14_plainZero_15 G l Q)

def C_X14_plainZero : xC := fun av S Q => ∃ u : Nat, av = [.long (lN u)] ∧ u < 2 ^ 64 ∧ Q (some (.long (lN (foB (ordB u))))) S
theorem foB_ordB {u : Nat} (h : u < 2 ^ 64) : foB (ordB u) = if u = 2 ^ 63 then 0 else u := by
  unfold foB ordB
  repeat' split
  all_goals omega
theorem cM_X14_plainZero (G : xG) (l : Launch) : xM G l yX14_plainZero cX14_plainZero 2 (some FieldType.long) r_X14_plainZero C_X14_plainZero := by
  refine xM_of (fun Q => b_X14_plainZero_0 Q) RX14 false (s_X14_plainZero_0 G l) (by decide) rfl (by decide) ?_
  rintro av S Q ⟨u, rfl, hu, hQ⟩
  refine ⟨Nat.le_of_ble_eq_true rfl, ?_⟩
  have e1 : lN (u % 2 ^ 63) = 0 ↔ u % 2 ^ 63 = 0 := pk_lEQ (b := 0) (by omega) (by decide)
  rw [foB_ordB hu] at hQ
  simp only [x_c, x_iload, x_lload, x_aload, x_istore, x_lstore, x_astore, x_iinc, x_iadd, x_isub, x_imul, x_iand, x_ior, x_ixor, x_ladd, x_lsub, x_lmul, x_land, x_lor, x_lxor, x_idiv, x_irem, x_ldiv, x_lrem, x_ineg, x_lneg, x_ishl, x_ishr, x_iushr, x_lshl, x_lshr, x_lushr, x_i2l, x_l2i, x_i2b, x_i2c, x_lcmp, x_if_eq, x_if_ne, x_if_lt, x_if_ge, x_if_gt, x_if_le, x_icmp_eq, x_icmp_ne, x_icmp_lt, x_icmp_ge, x_icmp_gt, x_icmp_le, x_dup, x_pop, x_dup_x1, x_dup2, x_iret, x_zret, x_lret, x_aret, x_vret, x_call, x_callv, x_calli, x_oinit, x_mmax, x_mmin, x_mabs, x_mmaxL, x_mminL, x_mabsL, lg_cmp_ge, lg_cmp_le, lg_cmp_gt, lg_cmp_lt, lg_cmp_eq, xlk, xs1, xs2, lv_args, Value.category, List.filter_cons, List.filter_nil, Nat.reduceAdd, Nat.reduceBEq, Nat.reduceEqDiff, Nat.reduceSub, Nat.sub_zero, beq_self_eq_true, Bool.not_true, Bool.not_false, Bool.and_true, Bool.and_false, Bool.true_and, Bool.false_and, reduceIte, reduceCtorEq, Bool.false_eq_true, Nat.one_ne_zero, Nat.zero_ne_one, Nat.zero_add, Option.toList_some, Option.toList_none, List.nil_append, List.cons_append, List.take_succ_cons, List.take_zero, List.take_nil, List.drop_succ_cons, List.drop_zero, List.length_cons, List.length_nil, List.reverse_cons, List.reverse_nil, List.head?_cons, List.map_cons, List.map_nil, List.sum_cons, List.sum_nil, true_and, and_true, List.getElem?_cons_zero, List.getElem?_cons_succ, Prod.eta, x_get, x_put, x_iald, x_iast, x_bald, x_bast, x_lald, x_last, x_alen, xup_s, xup_a1, xup_1a, xup_uu, nr_i, nr_l, nr_o, nr_a, ft_i, ft_l, ft_o, ft_a, Nat.reduceLT, i_cl0, i_cl1, i_n1, i_m1, List.set_cons_zero, List.set_cons_succ, Nat.reduceLeDiff, Nat.le_refl, Nat.zero_le, Nat.add_zero, x_no, x_ifnull, x_ifnonnull, x_acmp_eq, x_acmp_ne, x_swl, x_tsw, x_castC, true_or, or_true, nr_z, ft_z, nr_z0, nr_z1, ft_z0, ft_z1, nr_on, nr_an, ft_on, ft_an, b_X14_plainZero_0, b_X14_plainZero_15, lN_m63 hu, e1]
  refine ⟨fun z => ?_, fun z => ?_⟩
  · rw [if_neg (by omega)] at hQ
    exact hQ
  · rcases (show u = 0 ∨ u = 2 ^ 63 by omega) with rfl | rfl
    · exact hQ
    · rw [if_pos rfl] at hQ
      exact hQ
theorem dX14_least_0 : decode cX14_least 0 = .ok (.lload_n 0, 1) := by decide +kernel
theorem dX14_least_1 : decode cX14_least 1 = .ok (.invokestatic 160, 3) := by decide +kernel
theorem dX14_least_4 : decode cX14_least 4 = .ok (.lload_n 2, 1) := by decide +kernel
theorem dX14_least_5 : decode cX14_least 5 = .ok (.invokestatic 160, 3) := by decide +kernel
theorem dX14_least_8 : decode cX14_least 8 = .ok (.lcmp, 1) := by decide +kernel
theorem dX14_least_9 : decode cX14_least 9 = .ok (.ifCond .ge 7, 3) := by decide +kernel
theorem dX14_least_12 : decode cX14_least 12 = .ok (.lload_n 0, 1) := by decide +kernel
theorem dX14_least_13 : decode cX14_least 13 = .ok (.goto 4, 3) := by decide +kernel
theorem dX14_least_16 : decode cX14_least 16 = .ok (.lload_n 2, 1) := by decide +kernel
theorem dX14_least_17 : decode cX14_least 17 = .ok (.lreturn, 1) := by decide +kernel
abbrev r_X14_least : Room := { frames := 1, cells := 0, slots := 0, locals := 21 }
abbrev m_X14_least : xMd := (cX14_least, RX14, 4, (some FieldType.long), false, r_X14_least)
def b_X14_least_17 (Q : xQ) : xK := x_lret Q
def b_X14_least_0 (Q : xQ) : xK := x_lload 0 <| x_call C_X14_order 1 0 0 <| x_lload 2 <| x_call C_X14_order 1 0 0 <| x_lcmp <| x_if_ge (x_lload 2 <| (b_X14_least_17 Q)) <| x_lload 0 <| (b_X14_least_17 Q)
theorem s_X14_least_17 (G : xG) (l : Launch) (Q : xQ) : xW G l m_X14_least xX0 (xPm G Q r_X14_least) 17 (b_X14_least_17 Q) := xo_lret (pc := 17) rfl dX14_least_17
theorem s_X14_least_0 (G : xG) (l : Launch) (Q : xQ) : xW G l m_X14_least xX0 (xPm G Q r_X14_least) 0 (b_X14_least_0 Q) := xo_lload_n (pc := 0) (i := 0) dX14_least_0 rfl <| xo_callS (pc := 1) (np := 1) (cM_X14_order G l) dX14_least_1 kw1308 kw1306 kw1307 kw13 (by decide +kernel) (by decide) <| xo_lload_n (pc := 4) (i := 2) dX14_least_4 rfl <| xo_callS (pc := 5) (np := 1) (cM_X14_order G l) dX14_least_5 kw1308 kw1306 kw1307 kw13 (by decide +kernel) (by decide) <| xo_lcmp (pc := 8) dX14_least_8 <| xo_if_ge (pc := 9) (tgt := 16) dX14_least_9 (by decide) (xo_lload_n (pc := 16) (i := 2) dX14_least_16 rfl <| (s_X14_least_17 G l Q)) <| xo_lload_n (pc := 12) (i := 0) dX14_least_12 rfl <| xo_goto (pc := 13) (tgt := 17) dX14_least_13 (by decide) <| (s_X14_least_17 G l Q)

def C_X14_least : xC := fun av S Q => ∃ a b : Int, av = [.long (lN (foB a)), .long (lN (foB b))] ∧ oF a ∧ oF b ∧ Q (some (.long (lN (foB (min a b))))) S
theorem cM_X14_least (G : xG) (l : Launch) : xM G l yX14_least cX14_least 4 (some FieldType.long) r_X14_least C_X14_least := by
  refine xM_of (fun Q => b_X14_least_0 Q) RX14 false (s_X14_least_0 G l) (by decide) rfl (by decide) ?_
  rintro av S Q ⟨a, b, rfl, ha, hb, hQ⟩
  refine ⟨Nat.le_of_ble_eq_true rfl, ?_⟩
  simp only [x_c, x_iload, x_lload, x_aload, x_istore, x_lstore, x_astore, x_iinc, x_iadd, x_isub, x_imul, x_iand, x_ior, x_ixor, x_ladd, x_lsub, x_lmul, x_land, x_lor, x_lxor, x_idiv, x_irem, x_ldiv, x_lrem, x_ineg, x_lneg, x_ishl, x_ishr, x_iushr, x_lshl, x_lshr, x_lushr, x_i2l, x_l2i, x_i2b, x_i2c, x_lcmp, x_if_eq, x_if_ne, x_if_lt, x_if_ge, x_if_gt, x_if_le, x_icmp_eq, x_icmp_ne, x_icmp_lt, x_icmp_ge, x_icmp_gt, x_icmp_le, x_dup, x_pop, x_dup_x1, x_dup2, x_iret, x_zret, x_lret, x_aret, x_vret, x_call, x_callv, x_calli, x_oinit, x_mmax, x_mmin, x_mabs, x_mmaxL, x_mminL, x_mabsL, lg_cmp_ge, lg_cmp_le, lg_cmp_gt, lg_cmp_lt, lg_cmp_eq, xlk, xs1, xs2, lv_args, Value.category, List.filter_cons, List.filter_nil, Nat.reduceAdd, Nat.reduceBEq, Nat.reduceEqDiff, Nat.reduceSub, Nat.sub_zero, beq_self_eq_true, Bool.not_true, Bool.not_false, Bool.and_true, Bool.and_false, Bool.true_and, Bool.false_and, reduceIte, reduceCtorEq, Bool.false_eq_true, Nat.one_ne_zero, Nat.zero_ne_one, Nat.zero_add, Option.toList_some, Option.toList_none, List.nil_append, List.cons_append, List.take_succ_cons, List.take_zero, List.take_nil, List.drop_succ_cons, List.drop_zero, List.length_cons, List.length_nil, List.reverse_cons, List.reverse_nil, List.head?_cons, List.map_cons, List.map_nil, List.sum_cons, List.sum_nil, true_and, and_true, List.getElem?_cons_zero, List.getElem?_cons_succ, Prod.eta, x_get, x_put, x_iald, x_iast, x_bald, x_bast, x_lald, x_last, x_alen, xup_s, xup_a1, xup_1a, xup_uu, nr_i, nr_l, nr_o, nr_a, ft_i, ft_l, ft_o, ft_a, Nat.reduceLT, i_cl0, i_cl1, i_n1, i_m1, List.set_cons_zero, List.set_cons_succ, Nat.reduceLeDiff, Nat.le_refl, Nat.zero_le, Nat.add_zero, x_no, x_ifnull, x_ifnonnull, x_acmp_eq, x_acmp_ne, x_swl, x_tsw, x_castC, true_or, or_true, nr_z, ft_z, nr_z0, nr_z1, ft_z0, ft_z1, nr_on, nr_an, ft_on, ft_an, b_X14_least_0, b_X14_least_17]
  refine ⟨_, rfl, foB_lt ha.1 ha.2, ?_⟩
  rw [ordB_foB ha]
  try simp only [x_c, x_iload, x_lload, x_aload, x_istore, x_lstore, x_astore, x_iinc, x_iadd, x_isub, x_imul, x_iand, x_ior, x_ixor, x_ladd, x_lsub, x_lmul, x_land, x_lor, x_lxor, x_idiv, x_irem, x_ldiv, x_lrem, x_ineg, x_lneg, x_ishl, x_ishr, x_iushr, x_lshl, x_lshr, x_lushr, x_i2l, x_l2i, x_i2b, x_i2c, x_lcmp, x_if_eq, x_if_ne, x_if_lt, x_if_ge, x_if_gt, x_if_le, x_icmp_eq, x_icmp_ne, x_icmp_lt, x_icmp_ge, x_icmp_gt, x_icmp_le, x_dup, x_pop, x_dup_x1, x_dup2, x_iret, x_zret, x_lret, x_aret, x_vret, x_call, x_callv, x_calli, x_oinit, x_mmax, x_mmin, x_mabs, x_mmaxL, x_mminL, x_mabsL, lg_cmp_ge, lg_cmp_le, lg_cmp_gt, lg_cmp_lt, lg_cmp_eq, xlk, xs1, xs2, lv_args, Value.category, List.filter_cons, List.filter_nil, Nat.reduceAdd, Nat.reduceBEq, Nat.reduceEqDiff, Nat.reduceSub, Nat.sub_zero, beq_self_eq_true, Bool.not_true, Bool.not_false, Bool.and_true, Bool.and_false, Bool.true_and, Bool.false_and, reduceIte, reduceCtorEq, Bool.false_eq_true, Nat.one_ne_zero, Nat.zero_ne_one, Nat.zero_add, Option.toList_some, Option.toList_none, List.nil_append, List.cons_append, List.take_succ_cons, List.take_zero, List.take_nil, List.drop_succ_cons, List.drop_zero, List.length_cons, List.length_nil, List.reverse_cons, List.reverse_nil, List.head?_cons, List.map_cons, List.map_nil, List.sum_cons, List.sum_nil, true_and, and_true, List.getElem?_cons_zero, List.getElem?_cons_succ, Prod.eta, x_get, x_put, x_iald, x_iast, x_bald, x_bast, x_lald, x_last, x_alen, xup_s, xup_a1, xup_1a, xup_uu, nr_i, nr_l, nr_o, nr_a, ft_i, ft_l, ft_o, ft_a, Nat.reduceLT, i_cl0, i_cl1, i_n1, i_m1, List.set_cons_zero, List.set_cons_succ, Nat.reduceLeDiff, Nat.le_refl, Nat.zero_le, Nat.add_zero, x_no, x_ifnull, x_ifnonnull, x_acmp_eq, x_acmp_ne, x_swl, x_tsw, x_castC, true_or, or_true, nr_z, ft_z, nr_z0, nr_z1, ft_z0, ft_z1, nr_on, nr_an, ft_on, ft_an]
  refine ⟨_, rfl, foB_lt hb.1 hb.2, ?_⟩
  rw [ordB_foB hb]
  simp only [x_c, x_iload, x_lload, x_aload, x_istore, x_lstore, x_astore, x_iinc, x_iadd, x_isub, x_imul, x_iand, x_ior, x_ixor, x_ladd, x_lsub, x_lmul, x_land, x_lor, x_lxor, x_idiv, x_irem, x_ldiv, x_lrem, x_ineg, x_lneg, x_ishl, x_ishr, x_iushr, x_lshl, x_lshr, x_lushr, x_i2l, x_l2i, x_i2b, x_i2c, x_lcmp, x_if_eq, x_if_ne, x_if_lt, x_if_ge, x_if_gt, x_if_le, x_icmp_eq, x_icmp_ne, x_icmp_lt, x_icmp_ge, x_icmp_gt, x_icmp_le, x_dup, x_pop, x_dup_x1, x_dup2, x_iret, x_zret, x_lret, x_aret, x_vret, x_call, x_callv, x_calli, x_oinit, x_mmax, x_mmin, x_mabs, x_mmaxL, x_mminL, x_mabsL, lg_cmp_ge, lg_cmp_le, lg_cmp_gt, lg_cmp_lt, lg_cmp_eq, xlk, xs1, xs2, lv_args, Value.category, List.filter_cons, List.filter_nil, Nat.reduceAdd, Nat.reduceBEq, Nat.reduceEqDiff, Nat.reduceSub, Nat.sub_zero, beq_self_eq_true, Bool.not_true, Bool.not_false, Bool.and_true, Bool.and_false, Bool.true_and, Bool.false_and, reduceIte, reduceCtorEq, Bool.false_eq_true, Nat.one_ne_zero, Nat.zero_ne_one, Nat.zero_add, Option.toList_some, Option.toList_none, List.nil_append, List.cons_append, List.take_succ_cons, List.take_zero, List.take_nil, List.drop_succ_cons, List.drop_zero, List.length_cons, List.length_nil, List.reverse_cons, List.reverse_nil, List.head?_cons, List.map_cons, List.map_nil, List.sum_cons, List.sum_nil, true_and, and_true, List.getElem?_cons_zero, List.getElem?_cons_succ, Prod.eta, x_get, x_put, x_iald, x_iast, x_bald, x_bast, x_lald, x_last, x_alen, xup_s, xup_a1, xup_1a, xup_uu, nr_i, nr_l, nr_o, nr_a, ft_i, ft_l, ft_o, ft_a, Nat.reduceLT, i_cl0, i_cl1, i_n1, i_m1, List.set_cons_zero, List.set_cons_succ, Nat.reduceLeDiff, Nat.le_refl, Nat.zero_le, Nat.add_zero, x_no, x_ifnull, x_ifnonnull, x_acmp_eq, x_acmp_ne, x_swl, x_tsw, x_castC, true_or, or_true, nr_z, ft_z, nr_z0, nr_z1, ft_z0, ft_z1, nr_on, nr_an, ft_on, ft_an, lZ_leI hb ha]
  refine ⟨fun z => ?_, fun z => ?_⟩
  · rw [show min a b = b by omega] at hQ
    exact hQ
  · rw [show min a b = a by omega] at hQ
    exact hQ
theorem dX14_most_0 : decode cX14_most 0 = .ok (.lload_n 0, 1) := by decide +kernel
theorem dX14_most_1 : decode cX14_most 1 = .ok (.invokestatic 160, 3) := by decide +kernel
theorem dX14_most_4 : decode cX14_most 4 = .ok (.lload_n 2, 1) := by decide +kernel
theorem dX14_most_5 : decode cX14_most 5 = .ok (.invokestatic 160, 3) := by decide +kernel
theorem dX14_most_8 : decode cX14_most 8 = .ok (.lcmp, 1) := by decide +kernel
theorem dX14_most_9 : decode cX14_most 9 = .ok (.ifCond .le 7, 3) := by decide +kernel
theorem dX14_most_12 : decode cX14_most 12 = .ok (.lload_n 0, 1) := by decide +kernel
theorem dX14_most_13 : decode cX14_most 13 = .ok (.goto 4, 3) := by decide +kernel
theorem dX14_most_16 : decode cX14_most 16 = .ok (.lload_n 2, 1) := by decide +kernel
theorem dX14_most_17 : decode cX14_most 17 = .ok (.lreturn, 1) := by decide +kernel
abbrev r_X14_most : Room := { frames := 1, cells := 0, slots := 0, locals := 21 }
abbrev m_X14_most : xMd := (cX14_most, RX14, 4, (some FieldType.long), false, r_X14_most)
def b_X14_most_17 (Q : xQ) : xK := x_lret Q
def b_X14_most_0 (Q : xQ) : xK := x_lload 0 <| x_call C_X14_order 1 0 0 <| x_lload 2 <| x_call C_X14_order 1 0 0 <| x_lcmp <| x_if_le (x_lload 2 <| (b_X14_most_17 Q)) <| x_lload 0 <| (b_X14_most_17 Q)
theorem s_X14_most_17 (G : xG) (l : Launch) (Q : xQ) : xW G l m_X14_most xX0 (xPm G Q r_X14_most) 17 (b_X14_most_17 Q) := xo_lret (pc := 17) rfl dX14_most_17
theorem s_X14_most_0 (G : xG) (l : Launch) (Q : xQ) : xW G l m_X14_most xX0 (xPm G Q r_X14_most) 0 (b_X14_most_0 Q) := xo_lload_n (pc := 0) (i := 0) dX14_most_0 rfl <| xo_callS (pc := 1) (np := 1) (cM_X14_order G l) dX14_most_1 kw1308 kw1306 kw1307 kw13 (by decide +kernel) (by decide) <| xo_lload_n (pc := 4) (i := 2) dX14_most_4 rfl <| xo_callS (pc := 5) (np := 1) (cM_X14_order G l) dX14_most_5 kw1308 kw1306 kw1307 kw13 (by decide +kernel) (by decide) <| xo_lcmp (pc := 8) dX14_most_8 <| xo_if_le (pc := 9) (tgt := 16) dX14_most_9 (by decide) (xo_lload_n (pc := 16) (i := 2) dX14_most_16 rfl <| (s_X14_most_17 G l Q)) <| xo_lload_n (pc := 12) (i := 0) dX14_most_12 rfl <| xo_goto (pc := 13) (tgt := 17) dX14_most_13 (by decide) <| (s_X14_most_17 G l Q)

def C_X14_most : xC := fun av S Q => ∃ a b : Int, av = [.long (lN (foB a)), .long (lN (foB b))] ∧ oF a ∧ oF b ∧ Q (some (.long (lN (foB (max a b))))) S
theorem cM_X14_most (G : xG) (l : Launch) : xM G l yX14_most cX14_most 4 (some FieldType.long) r_X14_most C_X14_most := by
  refine xM_of (fun Q => b_X14_most_0 Q) RX14 false (s_X14_most_0 G l) (by decide) rfl (by decide) ?_
  rintro av S Q ⟨a, b, rfl, ha, hb, hQ⟩
  refine ⟨Nat.le_of_ble_eq_true rfl, ?_⟩
  simp only [x_c, x_iload, x_lload, x_aload, x_istore, x_lstore, x_astore, x_iinc, x_iadd, x_isub, x_imul, x_iand, x_ior, x_ixor, x_ladd, x_lsub, x_lmul, x_land, x_lor, x_lxor, x_idiv, x_irem, x_ldiv, x_lrem, x_ineg, x_lneg, x_ishl, x_ishr, x_iushr, x_lshl, x_lshr, x_lushr, x_i2l, x_l2i, x_i2b, x_i2c, x_lcmp, x_if_eq, x_if_ne, x_if_lt, x_if_ge, x_if_gt, x_if_le, x_icmp_eq, x_icmp_ne, x_icmp_lt, x_icmp_ge, x_icmp_gt, x_icmp_le, x_dup, x_pop, x_dup_x1, x_dup2, x_iret, x_zret, x_lret, x_aret, x_vret, x_call, x_callv, x_calli, x_oinit, x_mmax, x_mmin, x_mabs, x_mmaxL, x_mminL, x_mabsL, lg_cmp_ge, lg_cmp_le, lg_cmp_gt, lg_cmp_lt, lg_cmp_eq, xlk, xs1, xs2, lv_args, Value.category, List.filter_cons, List.filter_nil, Nat.reduceAdd, Nat.reduceBEq, Nat.reduceEqDiff, Nat.reduceSub, Nat.sub_zero, beq_self_eq_true, Bool.not_true, Bool.not_false, Bool.and_true, Bool.and_false, Bool.true_and, Bool.false_and, reduceIte, reduceCtorEq, Bool.false_eq_true, Nat.one_ne_zero, Nat.zero_ne_one, Nat.zero_add, Option.toList_some, Option.toList_none, List.nil_append, List.cons_append, List.take_succ_cons, List.take_zero, List.take_nil, List.drop_succ_cons, List.drop_zero, List.length_cons, List.length_nil, List.reverse_cons, List.reverse_nil, List.head?_cons, List.map_cons, List.map_nil, List.sum_cons, List.sum_nil, true_and, and_true, List.getElem?_cons_zero, List.getElem?_cons_succ, Prod.eta, x_get, x_put, x_iald, x_iast, x_bald, x_bast, x_lald, x_last, x_alen, xup_s, xup_a1, xup_1a, xup_uu, nr_i, nr_l, nr_o, nr_a, ft_i, ft_l, ft_o, ft_a, Nat.reduceLT, i_cl0, i_cl1, i_n1, i_m1, List.set_cons_zero, List.set_cons_succ, Nat.reduceLeDiff, Nat.le_refl, Nat.zero_le, Nat.add_zero, x_no, x_ifnull, x_ifnonnull, x_acmp_eq, x_acmp_ne, x_swl, x_tsw, x_castC, true_or, or_true, nr_z, ft_z, nr_z0, nr_z1, ft_z0, ft_z1, nr_on, nr_an, ft_on, ft_an, b_X14_most_0, b_X14_most_17]
  refine ⟨_, rfl, foB_lt ha.1 ha.2, ?_⟩
  rw [ordB_foB ha]
  try simp only [x_c, x_iload, x_lload, x_aload, x_istore, x_lstore, x_astore, x_iinc, x_iadd, x_isub, x_imul, x_iand, x_ior, x_ixor, x_ladd, x_lsub, x_lmul, x_land, x_lor, x_lxor, x_idiv, x_irem, x_ldiv, x_lrem, x_ineg, x_lneg, x_ishl, x_ishr, x_iushr, x_lshl, x_lshr, x_lushr, x_i2l, x_l2i, x_i2b, x_i2c, x_lcmp, x_if_eq, x_if_ne, x_if_lt, x_if_ge, x_if_gt, x_if_le, x_icmp_eq, x_icmp_ne, x_icmp_lt, x_icmp_ge, x_icmp_gt, x_icmp_le, x_dup, x_pop, x_dup_x1, x_dup2, x_iret, x_zret, x_lret, x_aret, x_vret, x_call, x_callv, x_calli, x_oinit, x_mmax, x_mmin, x_mabs, x_mmaxL, x_mminL, x_mabsL, lg_cmp_ge, lg_cmp_le, lg_cmp_gt, lg_cmp_lt, lg_cmp_eq, xlk, xs1, xs2, lv_args, Value.category, List.filter_cons, List.filter_nil, Nat.reduceAdd, Nat.reduceBEq, Nat.reduceEqDiff, Nat.reduceSub, Nat.sub_zero, beq_self_eq_true, Bool.not_true, Bool.not_false, Bool.and_true, Bool.and_false, Bool.true_and, Bool.false_and, reduceIte, reduceCtorEq, Bool.false_eq_true, Nat.one_ne_zero, Nat.zero_ne_one, Nat.zero_add, Option.toList_some, Option.toList_none, List.nil_append, List.cons_append, List.take_succ_cons, List.take_zero, List.take_nil, List.drop_succ_cons, List.drop_zero, List.length_cons, List.length_nil, List.reverse_cons, List.reverse_nil, List.head?_cons, List.map_cons, List.map_nil, List.sum_cons, List.sum_nil, true_and, and_true, List.getElem?_cons_zero, List.getElem?_cons_succ, Prod.eta, x_get, x_put, x_iald, x_iast, x_bald, x_bast, x_lald, x_last, x_alen, xup_s, xup_a1, xup_1a, xup_uu, nr_i, nr_l, nr_o, nr_a, ft_i, ft_l, ft_o, ft_a, Nat.reduceLT, i_cl0, i_cl1, i_n1, i_m1, List.set_cons_zero, List.set_cons_succ, Nat.reduceLeDiff, Nat.le_refl, Nat.zero_le, Nat.add_zero, x_no, x_ifnull, x_ifnonnull, x_acmp_eq, x_acmp_ne, x_swl, x_tsw, x_castC, true_or, or_true, nr_z, ft_z, nr_z0, nr_z1, ft_z0, ft_z1, nr_on, nr_an, ft_on, ft_an]
  refine ⟨_, rfl, foB_lt hb.1 hb.2, ?_⟩
  rw [ordB_foB hb]
  simp only [x_c, x_iload, x_lload, x_aload, x_istore, x_lstore, x_astore, x_iinc, x_iadd, x_isub, x_imul, x_iand, x_ior, x_ixor, x_ladd, x_lsub, x_lmul, x_land, x_lor, x_lxor, x_idiv, x_irem, x_ldiv, x_lrem, x_ineg, x_lneg, x_ishl, x_ishr, x_iushr, x_lshl, x_lshr, x_lushr, x_i2l, x_l2i, x_i2b, x_i2c, x_lcmp, x_if_eq, x_if_ne, x_if_lt, x_if_ge, x_if_gt, x_if_le, x_icmp_eq, x_icmp_ne, x_icmp_lt, x_icmp_ge, x_icmp_gt, x_icmp_le, x_dup, x_pop, x_dup_x1, x_dup2, x_iret, x_zret, x_lret, x_aret, x_vret, x_call, x_callv, x_calli, x_oinit, x_mmax, x_mmin, x_mabs, x_mmaxL, x_mminL, x_mabsL, lg_cmp_ge, lg_cmp_le, lg_cmp_gt, lg_cmp_lt, lg_cmp_eq, xlk, xs1, xs2, lv_args, Value.category, List.filter_cons, List.filter_nil, Nat.reduceAdd, Nat.reduceBEq, Nat.reduceEqDiff, Nat.reduceSub, Nat.sub_zero, beq_self_eq_true, Bool.not_true, Bool.not_false, Bool.and_true, Bool.and_false, Bool.true_and, Bool.false_and, reduceIte, reduceCtorEq, Bool.false_eq_true, Nat.one_ne_zero, Nat.zero_ne_one, Nat.zero_add, Option.toList_some, Option.toList_none, List.nil_append, List.cons_append, List.take_succ_cons, List.take_zero, List.take_nil, List.drop_succ_cons, List.drop_zero, List.length_cons, List.length_nil, List.reverse_cons, List.reverse_nil, List.head?_cons, List.map_cons, List.map_nil, List.sum_cons, List.sum_nil, true_and, and_true, List.getElem?_cons_zero, List.getElem?_cons_succ, Prod.eta, x_get, x_put, x_iald, x_iast, x_bald, x_bast, x_lald, x_last, x_alen, xup_s, xup_a1, xup_1a, xup_uu, nr_i, nr_l, nr_o, nr_a, ft_i, ft_l, ft_o, ft_a, Nat.reduceLT, i_cl0, i_cl1, i_n1, i_m1, List.set_cons_zero, List.set_cons_succ, Nat.reduceLeDiff, Nat.le_refl, Nat.zero_le, Nat.add_zero, x_no, x_ifnull, x_ifnonnull, x_acmp_eq, x_acmp_ne, x_swl, x_tsw, x_castC, true_or, or_true, nr_z, ft_z, nr_z0, nr_z1, ft_z0, ft_z1, nr_on, nr_an, ft_on, ft_an, lZ_leI ha hb]
  refine ⟨fun z => ?_, fun z => ?_⟩
  · rw [show max a b = b by omega] at hQ
    exact hQ
  · rw [show max a b = a by omega] at hQ
    exact hQ
theorem dX14_mayBe_0 : decode cX14_mayBe 0 = .ok (.lload_n 0, 1) := by decide +kernel
theorem dX14_mayBe_1 : decode cX14_mayBe 1 = .ok (.ldc2_w 55, 3) := by decide +kernel
theorem dX14_mayBe_4 : decode cX14_mayBe 4 = .ok (.land, 1) := by decide +kernel
theorem dX14_mayBe_5 : decode cX14_mayBe 5 = .ok (.ldc2_w 61, 3) := by decide +kernel
theorem dX14_mayBe_8 : decode cX14_mayBe 8 = .ok (.lcmp, 1) := by decide +kernel
theorem dX14_mayBe_9 : decode cX14_mayBe 9 = .ok (.ifCond .lt 21, 3) := by decide +kernel
theorem dX14_mayBe_12 : decode cX14_mayBe 12 = .ok (.lload_n 0, 1) := by decide +kernel
theorem dX14_mayBe_13 : decode cX14_mayBe 13 = .ok (.iload_n 2, 1) := by decide +kernel
theorem dX14_mayBe_14 : decode cX14_mayBe 14 = .ok (.ifCond .eq 9, 3) := by decide +kernel
theorem dX14_mayBe_17 : decode cX14_mayBe 17 = .ok (.ldc2_w 78, 3) := by decide +kernel
theorem dX14_mayBe_20 : decode cX14_mayBe 20 = .ok (.goto 6, 3) := by decide +kernel
theorem dX14_mayBe_23 : decode cX14_mayBe 23 = .ok (.ldc2_w 61, 3) := by decide +kernel
theorem dX14_mayBe_26 : decode cX14_mayBe 26 = .ok (.lcmp, 1) := by decide +kernel
theorem dX14_mayBe_27 : decode cX14_mayBe 27 = .ok (.ifCond .ne 7, 3) := by decide +kernel
theorem dX14_mayBe_30 : decode cX14_mayBe 30 = .ok (.iconst 1, 1) := by decide +kernel
theorem dX14_mayBe_31 : decode cX14_mayBe 31 = .ok (.goto 4, 3) := by decide +kernel
theorem dX14_mayBe_34 : decode cX14_mayBe 34 = .ok (.iconst 0, 1) := by decide +kernel
theorem dX14_mayBe_35 : decode cX14_mayBe 35 = .ok (.ireturn, 1) := by decide +kernel
abbrev r_X14_mayBe : Room := { frames := 0, cells := 0, slots := 0, locals := 0 }
abbrev m_X14_mayBe : xMd := (cX14_mayBe, RX14, 3, (some FieldType.boolean), false, r_X14_mayBe)
def b_X14_mayBe_35 (Q : xQ) : xK := x_zret FieldType.boolean Q
def b_X14_mayBe_30 (Q : xQ) : xK := x_c (.int 1) <| (b_X14_mayBe_35 Q)
def b_X14_mayBe_26 (Q : xQ) : xK := x_lcmp <| x_if_ne (x_c (.int 0) <| (b_X14_mayBe_35 Q)) <| (b_X14_mayBe_30 Q)
def b_X14_mayBe_0 (Q : xQ) : xK := x_lload 0 <| x_c (.long 9223372036854775807) <| x_land <| x_c (.long 9218868437227405312) <| x_lcmp <| x_if_lt ((b_X14_mayBe_30 Q)) <| x_lload 0 <| x_iload 2 <| x_if_eq (x_c (.long 9218868437227405312) <| (b_X14_mayBe_26 Q)) <| x_c (.long (-4503599627370496)) <| (b_X14_mayBe_26 Q)
theorem s_X14_mayBe_35 (G : xG) (l : Launch) (Q : xQ) : xW G l m_X14_mayBe xX0 (xPm G Q r_X14_mayBe) 35 (b_X14_mayBe_35 Q) := xo_zret (pc := 35) rfl dX14_mayBe_35
theorem s_X14_mayBe_30 (G : xG) (l : Launch) (Q : xQ) : xW G l m_X14_mayBe xX0 (xPm G Q r_X14_mayBe) 30 (b_X14_mayBe_30 Q) := xo_iconst (pc := 30) dX14_mayBe_30 (by decide) <| xo_goto (pc := 31) (tgt := 35) dX14_mayBe_31 (by decide) <| (s_X14_mayBe_35 G l Q)
theorem s_X14_mayBe_26 (G : xG) (l : Launch) (Q : xQ) : xW G l m_X14_mayBe xX0 (xPm G Q r_X14_mayBe) 26 (b_X14_mayBe_26 Q) := xo_lcmp (pc := 26) dX14_mayBe_26 <| xo_if_ne (pc := 27) (tgt := 34) dX14_mayBe_27 (by decide) (xo_iconst (pc := 34) dX14_mayBe_34 (by decide) <| (s_X14_mayBe_35 G l Q)) <| (s_X14_mayBe_30 G l Q)
theorem s_X14_mayBe_0 (G : xG) (l : Launch) (Q : xQ) : xW G l m_X14_mayBe xX0 (xPm G Q r_X14_mayBe) 0 (b_X14_mayBe_0 Q) := xo_lload_n (pc := 0) (i := 0) dX14_mayBe_0 rfl <| xo_ldc2_w (pc := 1) dX14_mayBe_1 kw1303 <| xo_land (pc := 4) dX14_mayBe_4 <| xo_ldc2_w (pc := 5) dX14_mayBe_5 kw1304 <| xo_lcmp (pc := 8) dX14_mayBe_8 <| xo_if_lt (pc := 9) (tgt := 30) dX14_mayBe_9 (by decide) ((s_X14_mayBe_30 G l Q)) <| xo_lload_n (pc := 12) (i := 0) dX14_mayBe_12 rfl <| xo_iload_n (pc := 13) (i := 2) dX14_mayBe_13 rfl <| xo_if_eq (pc := 14) (tgt := 23) dX14_mayBe_14 (by decide) (xo_ldc2_w (pc := 23) dX14_mayBe_23 kw1304 <| (s_X14_mayBe_26 G l Q)) <| xo_ldc2_w (pc := 17) dX14_mayBe_17 kw1305 <| xo_goto (pc := 20) (tgt := 26) dX14_mayBe_20 (by decide) <| (s_X14_mayBe_26 G l Q)

def C_X14_mayBe : xC := fun av S Q => ∃ (u : Nat) (b : Bool), av = [.long (lN u), .int (bI b)] ∧ u < 2 ^ 64 ∧ Q (some (.int (bI (decide (u % 2 ^ 63 < 9218868437227405312 ∨ u = if b then 9218868437227405312 + 2 ^ 63 else 9218868437227405312))))) S
theorem cM_X14_mayBe (G : xG) (l : Launch) : xM G l yX14_mayBe cX14_mayBe 3 (some FieldType.boolean) r_X14_mayBe C_X14_mayBe := by
  refine xM_of (fun Q => b_X14_mayBe_0 Q) RX14 false (s_X14_mayBe_0 G l) (by decide) rfl (by decide) ?_
  rintro av S Q ⟨u, b, rfl, hu, hQ⟩
  refine ⟨Nat.le_of_ble_eq_true rfl, ?_⟩
  have e1 : lN (u % 2 ^ 63) < 9218868437227405312 ↔ u % 2 ^ 63 < 9218868437227405312 := pk_lLT (b := 9218868437227405312) (by omega) (by decide)
  have e2 : lN u = 9218868437227405312 ↔ u = 9218868437227405312 := by
    refine ⟨fun z => ?_, fun z => by rw [z]; rfl⟩
    have := congrArg uN z
    rw [uN_lN hu] at this
    exact this.trans (by decide)
  have e3 : lN u = -4503599627370496 ↔ u = 9218868437227405312 + 2 ^ 63 := by
    refine ⟨fun z => ?_, fun z => by rw [z]; decide⟩
    have := congrArg uN z
    rw [uN_lN hu] at this
    exact this.trans (by decide)
  have eb : bI b = 0 ↔ b = false := bI_inj (b := false)
  simp only [x_c, x_iload, x_lload, x_aload, x_istore, x_lstore, x_astore, x_iinc, x_iadd, x_isub, x_imul, x_iand, x_ior, x_ixor, x_ladd, x_lsub, x_lmul, x_land, x_lor, x_lxor, x_idiv, x_irem, x_ldiv, x_lrem, x_ineg, x_lneg, x_ishl, x_ishr, x_iushr, x_lshl, x_lshr, x_lushr, x_i2l, x_l2i, x_i2b, x_i2c, x_lcmp, x_if_eq, x_if_ne, x_if_lt, x_if_ge, x_if_gt, x_if_le, x_icmp_eq, x_icmp_ne, x_icmp_lt, x_icmp_ge, x_icmp_gt, x_icmp_le, x_dup, x_pop, x_dup_x1, x_dup2, x_iret, x_zret, x_lret, x_aret, x_vret, x_call, x_callv, x_calli, x_oinit, x_mmax, x_mmin, x_mabs, x_mmaxL, x_mminL, x_mabsL, lg_cmp_ge, lg_cmp_le, lg_cmp_gt, lg_cmp_lt, lg_cmp_eq, xlk, xs1, xs2, lv_args, Value.category, List.filter_cons, List.filter_nil, Nat.reduceAdd, Nat.reduceBEq, Nat.reduceEqDiff, Nat.reduceSub, Nat.sub_zero, beq_self_eq_true, Bool.not_true, Bool.not_false, Bool.and_true, Bool.and_false, Bool.true_and, Bool.false_and, reduceIte, reduceCtorEq, Bool.false_eq_true, Nat.one_ne_zero, Nat.zero_ne_one, Nat.zero_add, Option.toList_some, Option.toList_none, List.nil_append, List.cons_append, List.take_succ_cons, List.take_zero, List.take_nil, List.drop_succ_cons, List.drop_zero, List.length_cons, List.length_nil, List.reverse_cons, List.reverse_nil, List.head?_cons, List.map_cons, List.map_nil, List.sum_cons, List.sum_nil, true_and, and_true, List.getElem?_cons_zero, List.getElem?_cons_succ, Prod.eta, x_get, x_put, x_iald, x_iast, x_bald, x_bast, x_lald, x_last, x_alen, xup_s, xup_a1, xup_1a, xup_uu, nr_i, nr_l, nr_o, nr_a, ft_i, ft_l, ft_o, ft_a, Nat.reduceLT, i_cl0, i_cl1, i_n1, i_m1, List.set_cons_zero, List.set_cons_succ, Nat.reduceLeDiff, Nat.le_refl, Nat.zero_le, Nat.add_zero, x_no, x_ifnull, x_ifnonnull, x_acmp_eq, x_acmp_ne, x_swl, x_tsw, x_castC, true_or, or_true, nr_z, ft_z, nr_z0, nr_z1, ft_z0, ft_z1, nr_on, nr_an, ft_on, ft_an, b_X14_mayBe_0, b_X14_mayBe_26, b_X14_mayBe_30, b_X14_mayBe_35, lN_m63 hu, e1, e2, e3, eb]
  cases b <;> simp only [Bool.false_eq_true, reduceIte, reduceCtorEq, false_implies, true_implies, true_and, and_true, not_true, not_false_eq_true] at hQ ⊢
  · refine ⟨fun z => ?_, fun z => ⟨fun y => ?_, fun y => ?_⟩⟩
    · rw [decide_eq_true (Or.inl z)] at hQ; exact hQ
    · rw [decide_eq_false (by omega)] at hQ; exact hQ
    · rw [decide_eq_true (Or.inr y)] at hQ; exact hQ
  · refine ⟨fun z => ?_, fun z => ⟨fun y => ?_, fun y => ?_⟩⟩
    · rw [decide_eq_true (Or.inl z)] at hQ; exact hQ
    · rw [decide_eq_false (by omega)] at hQ; exact hQ
    · rw [decide_eq_true (Or.inr y)] at hQ; exact hQ
/-- the float below, the float above -/
noncomputable def dnF (x : Rat) : Int := Classical.epsilon (dnS x)
noncomputable def upF (x : Rat) : Int := -dnF (-x)
theorem dnS_F {x : Rat} {k : Int} (h : dnS x k) : k = dnF x := dnS_uniq h (Classical.epsilon_spec (p := dnS x) ⟨k, h⟩)
theorem upS_F {x : Rat} {k : Int} (h : upS x k) : k = upF x := by
  have := dnS_F (x := -x) (k := -k) h
  unfold upF
  omega
theorem dnS_oF {x : Rat} {k : Int} (h : dnS x k) : -9218868437227405312 ≤ k ∧ k ≤ 9218868437227405311 := by
  rcases h with ⟨rfl, -⟩ | ⟨h1, h2, -⟩ <;> omega
/-- the object's fields: low, high, none, loose as told, the rest as s has it -/
def mF (M : Nat) (s : Nat → Value) (lo hi : Int) (nn ls : Bool) : List Value := [.ref (M + 1), .ref (M + 3), .ref (M + 5), .ref (M + 10), .ref (M + 15), .int (bI ls), s 6, s 7, .ref (M + 20), s 9, .ref (M + 21), s 11, .ref (M + 22), .ref (M + 23), .ref (M + 24), s 15, .int (bI nn), .long (lN (foB lo)), .long (lN (foB hi)), .ref (M + 25), .ref (M + 30), .ref (M + 35), .ref (M + 40), s 23, s 24, s 25, s 26]
def mU (s : Nat → Value) (lo hi : Int) (nn ls : Bool) : Nat → Value := fun i => if i = 5 then .int (bI ls) else if i = 16 then .int (bI nn) else if i = 17 then .long (lN (foB lo)) else if i = 18 then .long (lN (foB hi)) else s i
theorem mF_U (M : Nat) (s : Nat → Value) (lo hi : Int) (nn ls : Bool) : mF M s lo hi nn ls = moF M (mU s lo hi nn ls) := rfl
def mo (h : xH) (M : Nat) (s : Nat → Value) (lo hi : Int) (nn ls : Bool) : Prop := h M = some (.inr (13, mF M s lo hi nn ls))
theorem mV.ag {h h' : xH} {a v : Nat} (b : mV h a v) (o : ∀ q, a ≤ q → q < a + 2 → h' q = h q) : mV h' a v := by
  obtain ⟨x, n, ⟨r1, r2, r3⟩, r4⟩ := b
  exact ⟨x, n, ⟨(o a (by omega) (by omega)).trans r1, (o (a + 1) (by omega) (by omega)).trans r2, r3⟩, r4⟩
theorem nuR.ag {h h' : xH} {r : Nat} {b : Bool} {p q : Nat} {e : Int} (n : nuR h r b p q e) (o : ∀ w, r ≤ w → w < r + 5 → h' w = h w) : nuR h' r b p q e :=
  ⟨(o r (by omega) (by omega)).trans n.1, n.2.1.ag (fun w a c => o w (by omega) (by omega)), n.2.2.1.ag (fun w a c => o w (by omega) (by omega)), n.2.2.2⟩
def moR (h : xH) (M : Nat) : Prop := ∃ b p q e, nuR h (M + 15) b p q e
def moW (h : xH) (M : Nat) : Prop := moB h M ∧ moP h M ∧ moQ h M ∧ moR h M
theorem moW.dn {h h' : xH} {M : Nat} (w : moW h M) (o : xoff h' h (M + 1) (M + 10)) (b : moB h' M) (p : moP h' M) : moW h' M := by
  obtain ⟨-, -, ⟨b1, p1, q1, e1, n1⟩, ⟨b2, p2, q2, e2, n2⟩⟩ := w
  exact ⟨b, p, ⟨_, _, _, _, n1.off o (by omega)⟩, ⟨_, _, _, _, n2.off o (by omega)⟩⟩
theorem moW.off {h h' : xH} {M lo hi : Nat} (w : moW h M) (o : xoff h' h lo hi) (d : M + 20 ≤ lo ∨ hi ≤ M + 1) : moW h' M := by
  obtain ⟨⟨⟨x, a⟩, ⟨y, b⟩⟩, ⟨b0, p0, q0, e0, n0⟩, ⟨b1, p1, q1, e1, n1⟩, ⟨b2, p2, q2, e2, n2⟩⟩ := w
  exact ⟨⟨⟨x, a.off o (by omega)⟩, ⟨y, b.off o (by omega)⟩⟩, ⟨_, _, _, _, n0.off o (by omega)⟩, ⟨_, _, _, _, n1.off o (by omega)⟩, ⟨_, _, _, _, n2.off o (by omega)⟩⟩
/-- the number at r is x, with room enough to be rounded -/
def nuQ (h : xH) (r : Nat) (x : Rat) : Prop := ∃ b p q e, nuR h r b p q e ∧ nval b p q e = x ∧ q ≠ 0 ∧ p < 65536 ^ 639 ∧ 2 ^ 53 * q < 65536 ^ 639
theorem nuQ.off {h h' : xH} {r lo hi : Nat} {x : Rat} (n : nuQ h r x) (o : xoff h' h lo hi) (d : r + 5 ≤ lo ∨ hi ≤ r) : nuQ h' r x := by
  obtain ⟨b, p, q, e, n1, n2⟩ := n
  exact ⟨b, p, q, e, n1.off o d, n2⟩
theorem dX14_takeLow_0 : decode cX14_takeLow 0 = .ok (.aload_n 0, 1) := by decide +kernel
theorem dX14_takeLow_1 : decode cX14_takeLow 1 = .ok (.aload_n 0, 1) := by decide +kernel
theorem dX14_takeLow_2 : decode cX14_takeLow 2 = .ok (.getfield 171, 3) := by decide +kernel
theorem dX14_takeLow_5 : decode cX14_takeLow 5 = .ok (.aload_n 0, 1) := by decide +kernel
theorem dX14_takeLow_6 : decode cX14_takeLow 6 = .ok (.aload_n 1, 1) := by decide +kernel
theorem dX14_takeLow_7 : decode cX14_takeLow 7 = .ok (.invokevirtual 97, 3) := by decide +kernel
theorem dX14_takeLow_10 : decode cX14_takeLow 10 = .ok (.invokestatic 209, 3) := by decide +kernel
theorem dX14_takeLow_13 : decode cX14_takeLow 13 = .ok (.putfield 171, 3) := by decide +kernel
theorem dX14_takeLow_16 : decode cX14_takeLow 16 = .ok (.return_, 1) := by decide +kernel
abbrev r_X14_takeLow : Room := { frames := 5, cells := 0, slots := 0, locals := 127 }
abbrev m_X14_takeLow : xMd := (cX14_takeLow, RX14, 2, none, false, r_X14_takeLow)
def b_X14_takeLow_0 (Q : xQ) : xK := x_aload 0 <| x_aload 0 <| x_get 13 17 <| x_aload 0 <| x_aload 1 <| x_callv 13 C_X14_down 2 0 0 <| x_call C_X14_least 2 0 0 <| x_put 13 17 .long <| x_vret Q
theorem s_X14_takeLow_0 (G : xG) (l : Launch) (Q : xQ) : xW G l m_X14_takeLow xX0 (xPm G Q r_X14_takeLow) 0 (b_X14_takeLow_0 Q) := xo_aload_n (pc := 0) (i := 0) dX14_takeLow_0 rfl <| xo_aload_n (pc := 1) (i := 0) dX14_takeLow_1 rfl <| xo_get (pc := 2) (ci := 13) (i := 17) rfl ok13 (by decide) dX14_takeLow_2 kw1218 <| xo_aload_n (pc := 5) (i := 0) dX14_takeLow_5 rfl <| xo_aload_n (pc := 6) (i := 1) dX14_takeLow_6 rfl <| xo_callV (pc := 7) (np := 1) (ci := 13) rfl (cM_X14_down G l) dX14_takeLow_7 kw1414 kw1411 kw1413 ks62 kw13 (by decide +kernel) (by decide) <| xo_callS (pc := 10) (np := 2) (cM_X14_least G l) dX14_takeLow_10 kw1362 kw1360 kw1361 kw13 (by decide +kernel) (by decide) <| xo_put (pc := 13) (ci := 13) (i := 17) rfl ok13 (by decide) rfl rfl dX14_takeLow_13 kw1218 <| xo_vret (pc := 16) rfl dX14_takeLow_16

def C_X14_takeLow : xC := fun av S Q => ∃ (M r : Nat) (s : Nat → Value) (lo hi : Int) (nn ls : Bool) (x : Rat), av = [.ref M, .ref r] ∧ (r + 5 ≤ M ∨ M + 20 ≤ r) ∧ mo S.1 M s lo hi nn ls ∧ moW S.1 M ∧ nuQ S.1 r x ∧ oF lo ∧ ∀ h', xoff h' S.1 M (M + 20) → mo h' M s (min lo (dnF x)) hi nn ls → moW h' M → -9218868437227405312 ≤ dnF x → dnF x ≤ 9218868437227405311 → dnS x (dnF x) → Q none (h', S.2)
theorem cM_X14_takeLow (G : xG) (l : Launch) : xM G l yX14_takeLow cX14_takeLow 2 none r_X14_takeLow C_X14_takeLow := by
  refine xM_of (fun Q => b_X14_takeLow_0 Q) RX14 false (s_X14_takeLow_0 G l) (by decide) rfl (by decide) ?_
  rintro av ⟨h, S2⟩ Q ⟨M, r, s, lo, hi, nn, ls, x, rfl, dr, hO, hW, ⟨b, p, q, e, hr, hx, nq, m1, m2⟩, hlo, hQ⟩
  dsimp only at *
  refine ⟨Nat.le_of_ble_eq_true rfl, ?_⟩
  have hO1 : h M = some (.inr (13, mF M s lo hi nn ls)) := hO
  simp only [x_c, x_iload, x_lload, x_aload, x_istore, x_lstore, x_astore, x_iinc, x_iadd, x_isub, x_imul, x_iand, x_ior, x_ixor, x_ladd, x_lsub, x_lmul, x_land, x_lor, x_lxor, x_idiv, x_irem, x_ldiv, x_lrem, x_ineg, x_lneg, x_ishl, x_ishr, x_iushr, x_lshl, x_lshr, x_lushr, x_i2l, x_l2i, x_i2b, x_i2c, x_lcmp, x_if_eq, x_if_ne, x_if_lt, x_if_ge, x_if_gt, x_if_le, x_icmp_eq, x_icmp_ne, x_icmp_lt, x_icmp_ge, x_icmp_gt, x_icmp_le, x_dup, x_pop, x_dup_x1, x_dup2, x_iret, x_zret, x_lret, x_aret, x_vret, x_call, x_callv, x_calli, x_oinit, x_mmax, x_mmin, x_mabs, x_mmaxL, x_mminL, x_mabsL, lg_cmp_ge, lg_cmp_le, lg_cmp_gt, lg_cmp_lt, lg_cmp_eq, xlk, xs1, xs2, lv_args, Value.category, List.filter_cons, List.filter_nil, Nat.reduceAdd, Nat.reduceBEq, Nat.reduceEqDiff, Nat.reduceSub, Nat.sub_zero, beq_self_eq_true, Bool.not_true, Bool.not_false, Bool.and_true, Bool.and_false, Bool.true_and, Bool.false_and, reduceIte, reduceCtorEq, Bool.false_eq_true, Nat.one_ne_zero, Nat.zero_ne_one, Nat.zero_add, Option.toList_some, Option.toList_none, List.nil_append, List.cons_append, List.take_succ_cons, List.take_zero, List.take_nil, List.drop_succ_cons, List.drop_zero, List.length_cons, List.length_nil, List.reverse_cons, List.reverse_nil, List.head?_cons, List.map_cons, List.map_nil, List.sum_cons, List.sum_nil, true_and, and_true, List.getElem?_cons_zero, List.getElem?_cons_succ, Prod.eta, x_get, x_put, x_iald, x_iast, x_bald, x_bast, x_lald, x_last, x_alen, xup_s, xup_a1, xup_1a, xup_uu, nr_i, nr_l, nr_o, nr_a, ft_i, ft_l, ft_o, ft_a, Nat.reduceLT, i_cl0, i_cl1, i_n1, i_m1, List.set_cons_zero, List.set_cons_succ, Nat.reduceLeDiff, Nat.le_refl, Nat.zero_le, Nat.add_zero, x_no, x_ifnull, x_ifnonnull, x_acmp_eq, x_acmp_ne, x_swl, x_tsw, x_castC, true_or, or_true, nr_z, ft_z, nr_z0, nr_z1, ft_z0, ft_z1, nr_on, nr_an, ft_on, ft_an, b_X14_takeLow_0, hO1, mF]
  refine ⟨⟨_, _, rfl, hO1⟩, M, r, mU s lo hi nn ls, ls, b, p, q, e, rfl, by omega, hO, rfl, hW.1, hW.2.1, hr, nq, m1, m2, fun h2 k o2 B2 P2 d2 => ?_⟩
  rw [hx] at d2
  have kr := dnS_oF d2
  have ek := dnS_F d2
  subst ek
  try simp only [x_c, x_iload, x_lload, x_aload, x_istore, x_lstore, x_astore, x_iinc, x_iadd, x_isub, x_imul, x_iand, x_ior, x_ixor, x_ladd, x_lsub, x_lmul, x_land, x_lor, x_lxor, x_idiv, x_irem, x_ldiv, x_lrem, x_ineg, x_lneg, x_ishl, x_ishr, x_iushr, x_lshl, x_lshr, x_lushr, x_i2l, x_l2i, x_i2b, x_i2c, x_lcmp, x_if_eq, x_if_ne, x_if_lt, x_if_ge, x_if_gt, x_if_le, x_icmp_eq, x_icmp_ne, x_icmp_lt, x_icmp_ge, x_icmp_gt, x_icmp_le, x_dup, x_pop, x_dup_x1, x_dup2, x_iret, x_zret, x_lret, x_aret, x_vret, x_call, x_callv, x_calli, x_oinit, x_mmax, x_mmin, x_mabs, x_mmaxL, x_mminL, x_mabsL, lg_cmp_ge, lg_cmp_le, lg_cmp_gt, lg_cmp_lt, lg_cmp_eq, xlk, xs1, xs2, lv_args, Value.category, List.filter_cons, List.filter_nil, Nat.reduceAdd, Nat.reduceBEq, Nat.reduceEqDiff, Nat.reduceSub, Nat.sub_zero, beq_self_eq_true, Bool.not_true, Bool.not_false, Bool.and_true, Bool.and_false, Bool.true_and, Bool.false_and, reduceIte, reduceCtorEq, Bool.false_eq_true, Nat.one_ne_zero, Nat.zero_ne_one, Nat.zero_add, Option.toList_some, Option.toList_none, List.nil_append, List.cons_append, List.take_succ_cons, List.take_zero, List.take_nil, List.drop_succ_cons, List.drop_zero, List.length_cons, List.length_nil, List.reverse_cons, List.reverse_nil, List.head?_cons, List.map_cons, List.map_nil, List.sum_cons, List.sum_nil, true_and, and_true, List.getElem?_cons_zero, List.getElem?_cons_succ, Prod.eta, x_get, x_put, x_iald, x_iast, x_bald, x_bast, x_lald, x_last, x_alen, xup_s, xup_a1, xup_1a, xup_uu, nr_i, nr_l, nr_o, nr_a, ft_i, ft_l, ft_o, ft_a, Nat.reduceLT, i_cl0, i_cl1, i_n1, i_m1, List.set_cons_zero, List.set_cons_succ, Nat.reduceLeDiff, Nat.le_refl, Nat.zero_le, Nat.add_zero, x_no, x_ifnull, x_ifnonnull, x_acmp_eq, x_acmp_ne, x_swl, x_tsw, x_castC, true_or, or_true, nr_z, ft_z, nr_z0, nr_z1, ft_z0, ft_z1, nr_on, nr_an, ft_on, ft_an]
  refine ⟨lo, dnF x, rfl, hlo, ⟨by omega, by omega⟩, ?_⟩
  have hO2 : h2 M = some (.inr (13, mF M s lo hi nn ls)) := (o2 M (by omega)).trans hO1
  simp only [x_c, x_iload, x_lload, x_aload, x_istore, x_lstore, x_astore, x_iinc, x_iadd, x_isub, x_imul, x_iand, x_ior, x_ixor, x_ladd, x_lsub, x_lmul, x_land, x_lor, x_lxor, x_idiv, x_irem, x_ldiv, x_lrem, x_ineg, x_lneg, x_ishl, x_ishr, x_iushr, x_lshl, x_lshr, x_lushr, x_i2l, x_l2i, x_i2b, x_i2c, x_lcmp, x_if_eq, x_if_ne, x_if_lt, x_if_ge, x_if_gt, x_if_le, x_icmp_eq, x_icmp_ne, x_icmp_lt, x_icmp_ge, x_icmp_gt, x_icmp_le, x_dup, x_pop, x_dup_x1, x_dup2, x_iret, x_zret, x_lret, x_aret, x_vret, x_call, x_callv, x_calli, x_oinit, x_mmax, x_mmin, x_mabs, x_mmaxL, x_mminL, x_mabsL, lg_cmp_ge, lg_cmp_le, lg_cmp_gt, lg_cmp_lt, lg_cmp_eq, xlk, xs1, xs2, lv_args, Value.category, List.filter_cons, List.filter_nil, Nat.reduceAdd, Nat.reduceBEq, Nat.reduceEqDiff, Nat.reduceSub, Nat.sub_zero, beq_self_eq_true, Bool.not_true, Bool.not_false, Bool.and_true, Bool.and_false, Bool.true_and, Bool.false_and, reduceIte, reduceCtorEq, Bool.false_eq_true, Nat.one_ne_zero, Nat.zero_ne_one, Nat.zero_add, Option.toList_some, Option.toList_none, List.nil_append, List.cons_append, List.take_succ_cons, List.take_zero, List.take_nil, List.drop_succ_cons, List.drop_zero, List.length_cons, List.length_nil, List.reverse_cons, List.reverse_nil, List.head?_cons, List.map_cons, List.map_nil, List.sum_cons, List.sum_nil, true_and, and_true, List.getElem?_cons_zero, List.getElem?_cons_succ, Prod.eta, x_get, x_put, x_iald, x_iast, x_bald, x_bast, x_lald, x_last, x_alen, xup_s, xup_a1, xup_1a, xup_uu, nr_i, nr_l, nr_o, nr_a, ft_i, ft_l, ft_o, ft_a, Nat.reduceLT, i_cl0, i_cl1, i_n1, i_m1, List.set_cons_zero, List.set_cons_succ, Nat.reduceLeDiff, Nat.le_refl, Nat.zero_le, Nat.add_zero, x_no, x_ifnull, x_ifnonnull, x_acmp_eq, x_acmp_ne, x_swl, x_tsw, x_castC, true_or, or_true, nr_z, ft_z, nr_z0, nr_z1, ft_z0, ft_z1, nr_on, nr_an, ft_on, ft_an, hO2, mF]
  refine hQ _ (xoff_up (xoff_wd o2 (by omega) (by omega)) (by omega) (by omega)) xup_s ?_ kr.1 kr.2 d2
  exact (hW.dn o2 B2 P2).off (lo := M) (hi := M + 1) off1 (by omega)
theorem dX14_takeHigh_0 : decode cX14_takeHigh 0 = .ok (.aload_n 0, 1) := by decide +kernel
theorem dX14_takeHigh_1 : decode cX14_takeHigh 1 = .ok (.aload_n 0, 1) := by decide +kernel
theorem dX14_takeHigh_2 : decode cX14_takeHigh 2 = .ok (.getfield 175, 3) := by decide +kernel
theorem dX14_takeHigh_5 : decode cX14_takeHigh 5 = .ok (.aload_n 0, 1) := by decide +kernel
theorem dX14_takeHigh_6 : decode cX14_takeHigh 6 = .ok (.aload_n 1, 1) := by decide +kernel
theorem dX14_takeHigh_7 : decode cX14_takeHigh 7 = .ok (.invokevirtual 213, 3) := by decide +kernel
theorem dX14_takeHigh_10 : decode cX14_takeHigh 10 = .ok (.invokestatic 216, 3) := by decide +kernel
theorem dX14_takeHigh_13 : decode cX14_takeHigh 13 = .ok (.putfield 175, 3) := by decide +kernel
theorem dX14_takeHigh_16 : decode cX14_takeHigh 16 = .ok (.return_, 1) := by decide +kernel
abbrev r_X14_takeHigh : Room := { frames := 6, cells := 0, slots := 0, locals := 148 }
abbrev m_X14_takeHigh : xMd := (cX14_takeHigh, RX14, 2, none, false, r_X14_takeHigh)
def b_X14_takeHigh_0 (Q : xQ) : xK := x_aload 0 <| x_aload 0 <| x_get 13 18 <| x_aload 0 <| x_aload 1 <| x_callv 13 C_X14_up 2 0 0 <| x_call C_X14_most 2 0 0 <| x_put 13 18 .long <| x_vret Q
theorem s_X14_takeHigh_0 (G : xG) (l : Launch) (Q : xQ) : xW G l m_X14_takeHigh xX0 (xPm G Q r_X14_takeHigh) 0 (b_X14_takeHigh_0 Q) := xo_aload_n (pc := 0) (i := 0) dX14_takeHigh_0 rfl <| xo_aload_n (pc := 1) (i := 0) dX14_takeHigh_1 rfl <| xo_get (pc := 2) (ci := 13) (i := 18) rfl ok13 (by decide) dX14_takeHigh_2 kw1219 <| xo_aload_n (pc := 5) (i := 0) dX14_takeHigh_5 rfl <| xo_aload_n (pc := 6) (i := 1) dX14_takeHigh_6 rfl <| xo_callV (pc := 7) (np := 1) (ci := 13) rfl (cM_X14_up G l) dX14_takeHigh_7 kw1465 kw1462 kw1464 ks66 kw13 (by decide +kernel) (by decide) <| xo_callS (pc := 10) (np := 2) (cM_X14_most G l) dX14_takeHigh_10 kw1365 kw1363 kw1364 kw13 (by decide +kernel) (by decide) <| xo_put (pc := 13) (ci := 13) (i := 18) rfl ok13 (by decide) rfl rfl dX14_takeHigh_13 kw1219 <| xo_vret (pc := 16) rfl dX14_takeHigh_16

def C_X14_takeHigh : xC := fun av S Q => ∃ (M r : Nat) (s : Nat → Value) (lo hi : Int) (nn ls : Bool) (x : Rat), av = [.ref M, .ref r] ∧ (r + 5 ≤ M ∨ M + 20 ≤ r) ∧ mo S.1 M s lo hi nn ls ∧ moW S.1 M ∧ nuQ S.1 r x ∧ oF hi ∧ ∀ h', xoff h' S.1 M (M + 20) → mo h' M s lo (max hi (upF x)) nn ls → moW h' M → -9218868437227405311 ≤ upF x → upF x ≤ 9218868437227405312 → upS x (upF x) → Q none (h', S.2)
theorem cM_X14_takeHigh (G : xG) (l : Launch) : xM G l yX14_takeHigh cX14_takeHigh 2 none r_X14_takeHigh C_X14_takeHigh := by
  refine xM_of (fun Q => b_X14_takeHigh_0 Q) RX14 false (s_X14_takeHigh_0 G l) (by decide) rfl (by decide) ?_
  rintro av ⟨h, S2⟩ Q ⟨M, r, s, lo, hi, nn, ls, x, rfl, dr, hO, hW, ⟨b, p, q, e, hr, hx, nq, m1, m2⟩, hhi, hQ⟩
  dsimp only at *
  refine ⟨Nat.le_of_ble_eq_true rfl, ?_⟩
  have hO1 : h M = some (.inr (13, mF M s lo hi nn ls)) := hO
  simp only [x_c, x_iload, x_lload, x_aload, x_istore, x_lstore, x_astore, x_iinc, x_iadd, x_isub, x_imul, x_iand, x_ior, x_ixor, x_ladd, x_lsub, x_lmul, x_land, x_lor, x_lxor, x_idiv, x_irem, x_ldiv, x_lrem, x_ineg, x_lneg, x_ishl, x_ishr, x_iushr, x_lshl, x_lshr, x_lushr, x_i2l, x_l2i, x_i2b, x_i2c, x_lcmp, x_if_eq, x_if_ne, x_if_lt, x_if_ge, x_if_gt, x_if_le, x_icmp_eq, x_icmp_ne, x_icmp_lt, x_icmp_ge, x_icmp_gt, x_icmp_le, x_dup, x_pop, x_dup_x1, x_dup2, x_iret, x_zret, x_lret, x_aret, x_vret, x_call, x_callv, x_calli, x_oinit, x_mmax, x_mmin, x_mabs, x_mmaxL, x_mminL, x_mabsL, lg_cmp_ge, lg_cmp_le, lg_cmp_gt, lg_cmp_lt, lg_cmp_eq, xlk, xs1, xs2, lv_args, Value.category, List.filter_cons, List.filter_nil, Nat.reduceAdd, Nat.reduceBEq, Nat.reduceEqDiff, Nat.reduceSub, Nat.sub_zero, beq_self_eq_true, Bool.not_true, Bool.not_false, Bool.and_true, Bool.and_false, Bool.true_and, Bool.false_and, reduceIte, reduceCtorEq, Bool.false_eq_true, Nat.one_ne_zero, Nat.zero_ne_one, Nat.zero_add, Option.toList_some, Option.toList_none, List.nil_append, List.cons_append, List.take_succ_cons, List.take_zero, List.take_nil, List.drop_succ_cons, List.drop_zero, List.length_cons, List.length_nil, List.reverse_cons, List.reverse_nil, List.head?_cons, List.map_cons, List.map_nil, List.sum_cons, List.sum_nil, true_and, and_true, List.getElem?_cons_zero, List.getElem?_cons_succ, Prod.eta, x_get, x_put, x_iald, x_iast, x_bald, x_bast, x_lald, x_last, x_alen, xup_s, xup_a1, xup_1a, xup_uu, nr_i, nr_l, nr_o, nr_a, ft_i, ft_l, ft_o, ft_a, Nat.reduceLT, i_cl0, i_cl1, i_n1, i_m1, List.set_cons_zero, List.set_cons_succ, Nat.reduceLeDiff, Nat.le_refl, Nat.zero_le, Nat.add_zero, x_no, x_ifnull, x_ifnonnull, x_acmp_eq, x_acmp_ne, x_swl, x_tsw, x_castC, true_or, or_true, nr_z, ft_z, nr_z0, nr_z1, ft_z0, ft_z1, nr_on, nr_an, ft_on, ft_an, b_X14_takeHigh_0, hO1, mF]
  refine ⟨⟨_, _, rfl, hO1⟩, M, r, mU s lo hi nn ls, ls, b, p, q, e, rfl, by omega, hO, rfl, hW.1, hW.2.1, hW.2.2.2, hr, nq, m1, m2, fun h2 k o2 B2 P2 R2 d2 => ?_⟩
  rw [hx] at d2
  have kr := dnS_oF d2
  have ek := upS_F d2
  subst ek
  try simp only [x_c, x_iload, x_lload, x_aload, x_istore, x_lstore, x_astore, x_iinc, x_iadd, x_isub, x_imul, x_iand, x_ior, x_ixor, x_ladd, x_lsub, x_lmul, x_land, x_lor, x_lxor, x_idiv, x_irem, x_ldiv, x_lrem, x_ineg, x_lneg, x_ishl, x_ishr, x_iushr, x_lshl, x_lshr, x_lushr, x_i2l, x_l2i, x_i2b, x_i2c, x_lcmp, x_if_eq, x_if_ne, x_if_lt, x_if_ge, x_if_gt, x_if_le, x_icmp_eq, x_icmp_ne, x_icmp_lt, x_icmp_ge, x_icmp_gt, x_icmp_le, x_dup, x_pop, x_dup_x1, x_dup2, x_iret, x_zret, x_lret, x_aret, x_vret, x_call, x_callv, x_calli, x_oinit, x_mmax, x_mmin, x_mabs, x_mmaxL, x_mminL, x_mabsL, lg_cmp_ge, lg_cmp_le, lg_cmp_gt, lg_cmp_lt, lg_cmp_eq, xlk, xs1, xs2, lv_args, Value.category, List.filter_cons, List.filter_nil, Nat.reduceAdd, Nat.reduceBEq, Nat.reduceEqDiff, Nat.reduceSub, Nat.sub_zero, beq_self_eq_true, Bool.not_true, Bool.not_false, Bool.and_true, Bool.and_false, Bool.true_and, Bool.false_and, reduceIte, reduceCtorEq, Bool.false_eq_true, Nat.one_ne_zero, Nat.zero_ne_one, Nat.zero_add, Option.toList_some, Option.toList_none, List.nil_append, List.cons_append, List.take_succ_cons, List.take_zero, List.take_nil, List.drop_succ_cons, List.drop_zero, List.length_cons, List.length_nil, List.reverse_cons, List.reverse_nil, List.head?_cons, List.map_cons, List.map_nil, List.sum_cons, List.sum_nil, true_and, and_true, List.getElem?_cons_zero, List.getElem?_cons_succ, Prod.eta, x_get, x_put, x_iald, x_iast, x_bald, x_bast, x_lald, x_last, x_alen, xup_s, xup_a1, xup_1a, xup_uu, nr_i, nr_l, nr_o, nr_a, ft_i, ft_l, ft_o, ft_a, Nat.reduceLT, i_cl0, i_cl1, i_n1, i_m1, List.set_cons_zero, List.set_cons_succ, Nat.reduceLeDiff, Nat.le_refl, Nat.zero_le, Nat.add_zero, x_no, x_ifnull, x_ifnonnull, x_acmp_eq, x_acmp_ne, x_swl, x_tsw, x_castC, true_or, or_true, nr_z, ft_z, nr_z0, nr_z1, ft_z0, ft_z1, nr_on, nr_an, ft_on, ft_an]
  refine ⟨hi, upF x, rfl, hhi, ⟨by omega, by omega⟩, ?_⟩
  have o2' : xoff h2 h (M + 1) (M + 20) := fun w a => o2 w (by omega) (by omega)
  have hO2 : h2 M = some (.inr (13, mF M s lo hi nn ls)) := (o2' M (by omega)).trans hO1
  simp only [x_c, x_iload, x_lload, x_aload, x_istore, x_lstore, x_astore, x_iinc, x_iadd, x_isub, x_imul, x_iand, x_ior, x_ixor, x_ladd, x_lsub, x_lmul, x_land, x_lor, x_lxor, x_idiv, x_irem, x_ldiv, x_lrem, x_ineg, x_lneg, x_ishl, x_ishr, x_iushr, x_lshl, x_lshr, x_lushr, x_i2l, x_l2i, x_i2b, x_i2c, x_lcmp, x_if_eq, x_if_ne, x_if_lt, x_if_ge, x_if_gt, x_if_le, x_icmp_eq, x_icmp_ne, x_icmp_lt, x_icmp_ge, x_icmp_gt, x_icmp_le, x_dup, x_pop, x_dup_x1, x_dup2, x_iret, x_zret, x_lret, x_aret, x_vret, x_call, x_callv, x_calli, x_oinit, x_mmax, x_mmin, x_mabs, x_mmaxL, x_mminL, x_mabsL, lg_cmp_ge, lg_cmp_le, lg_cmp_gt, lg_cmp_lt, lg_cmp_eq, xlk, xs1, xs2, lv_args, Value.category, List.filter_cons, List.filter_nil, Nat.reduceAdd, Nat.reduceBEq, Nat.reduceEqDiff, Nat.reduceSub, Nat.sub_zero, beq_self_eq_true, Bool.not_true, Bool.not_false, Bool.and_true, Bool.and_false, Bool.true_and, Bool.false_and, reduceIte, reduceCtorEq, Bool.false_eq_true, Nat.one_ne_zero, Nat.zero_ne_one, Nat.zero_add, Option.toList_some, Option.toList_none, List.nil_append, List.cons_append, List.take_succ_cons, List.take_zero, List.take_nil, List.drop_succ_cons, List.drop_zero, List.length_cons, List.length_nil, List.reverse_cons, List.reverse_nil, List.head?_cons, List.map_cons, List.map_nil, List.sum_cons, List.sum_nil, true_and, and_true, List.getElem?_cons_zero, List.getElem?_cons_succ, Prod.eta, x_get, x_put, x_iald, x_iast, x_bald, x_bast, x_lald, x_last, x_alen, xup_s, xup_a1, xup_1a, xup_uu, nr_i, nr_l, nr_o, nr_a, ft_i, ft_l, ft_o, ft_a, Nat.reduceLT, i_cl0, i_cl1, i_n1, i_m1, List.set_cons_zero, List.set_cons_succ, Nat.reduceLeDiff, Nat.le_refl, Nat.zero_le, Nat.add_zero, x_no, x_ifnull, x_ifnonnull, x_acmp_eq, x_acmp_ne, x_swl, x_tsw, x_castC, true_or, or_true, nr_z, ft_z, nr_z0, nr_z1, ft_z0, ft_z1, nr_on, nr_an, ft_on, ft_an, hO2, mF]
  refine hQ _ (xoff_up (xoff_wd o2' (by omega) (by omega)) (by omega) (by omega)) xup_s ?_ (by omega) (by omega) d2
  obtain ⟨-, -, ⟨b1, p1, q1, e1, n1⟩, -⟩ := hW
  have w2 : moW h2 M := ⟨B2, P2, ⟨_, _, _, _, n1.ag (fun w a c => o2 w (by omega) (by omega))⟩, R2⟩
  exact w2.off (lo := M) (hi := M + 1) off1 (by omega)
theorem dX14_takeFloat_0 : decode cX14_takeFloat 0 = .ok (.aload_n 0, 1) := by decide +kernel
theorem dX14_takeFloat_1 : decode cX14_takeFloat 1 = .ok (.aload_n 0, 1) := by decide +kernel
theorem dX14_takeFloat_2 : decode cX14_takeFloat 2 = .ok (.getfield 171, 3) := by decide +kernel
theorem dX14_takeFloat_5 : decode cX14_takeFloat 5 = .ok (.lload_n 1, 1) := by decide +kernel
theorem dX14_takeFloat_6 : decode cX14_takeFloat 6 = .ok (.invokestatic 209, 3) := by decide +kernel
theorem dX14_takeFloat_9 : decode cX14_takeFloat 9 = .ok (.putfield 171, 3) := by decide +kernel
theorem dX14_takeFloat_12 : decode cX14_takeFloat 12 = .ok (.aload_n 0, 1) := by decide +kernel
theorem dX14_takeFloat_13 : decode cX14_takeFloat 13 = .ok (.aload_n 0, 1) := by decide +kernel
theorem dX14_takeFloat_14 : decode cX14_takeFloat 14 = .ok (.getfield 175, 3) := by decide +kernel
theorem dX14_takeFloat_17 : decode cX14_takeFloat 17 = .ok (.lload_n 1, 1) := by decide +kernel
theorem dX14_takeFloat_18 : decode cX14_takeFloat 18 = .ok (.invokestatic 216, 3) := by decide +kernel
theorem dX14_takeFloat_21 : decode cX14_takeFloat 21 = .ok (.putfield 175, 3) := by decide +kernel
theorem dX14_takeFloat_24 : decode cX14_takeFloat 24 = .ok (.return_, 1) := by decide +kernel
abbrev r_X14_takeFloat : Room := { frames := 2, cells := 0, slots := 0, locals := 44 }
abbrev m_X14_takeFloat : xMd := (cX14_takeFloat, RX14, 3, none, false, r_X14_takeFloat)
def b_X14_takeFloat_0 (Q : xQ) : xK := x_aload 0 <| x_aload 0 <| x_get 13 17 <| x_lload 1 <| x_call C_X14_least 2 0 0 <| x_put 13 17 .long <| x_aload 0 <| x_aload 0 <| x_get 13 18 <| x_lload 1 <| x_call C_X14_most 2 0 0 <| x_put 13 18 .long <| x_vret Q
theorem s_X14_takeFloat_0 (G : xG) (l : Launch) (Q : xQ) : xW G l m_X14_takeFloat xX0 (xPm G Q r_X14_takeFloat) 0 (b_X14_takeFloat_0 Q) := xo_aload_n (pc := 0) (i := 0) dX14_takeFloat_0 rfl <| xo_aload_n (pc := 1) (i := 0) dX14_takeFloat_1 rfl <| xo_get (pc := 2) (ci := 13) (i := 17) rfl ok13 (by decide) dX14_takeFloat_2 kw1218 <| xo_lload_n (pc := 5) (i := 1) dX14_takeFloat_5 rfl <| xo_callS (pc := 6) (np := 2) (cM_X14_least G l) dX14_takeFloat_6 kw1362 kw1360 kw1361 kw13 (by decide +kernel) (by decide) <| xo_put (pc := 9) (ci := 13) (i := 17) rfl ok13 (by decide) rfl rfl dX14_takeFloat_9 kw1218 <| xo_aload_n (pc := 12) (i := 0) dX14_takeFloat_12 rfl <| xo_aload_n (pc := 13) (i := 0) dX14_takeFloat_13 rfl <| xo_get (pc := 14) (ci := 13) (i := 18) rfl ok13 (by decide) dX14_takeFloat_14 kw1219 <| xo_lload_n (pc := 17) (i := 1) dX14_takeFloat_17 rfl <| xo_callS (pc := 18) (np := 2) (cM_X14_most G l) dX14_takeFloat_18 kw1365 kw1363 kw1364 kw13 (by decide +kernel) (by decide) <| xo_put (pc := 21) (ci := 13) (i := 18) rfl ok13 (by decide) rfl rfl dX14_takeFloat_21 kw1219 <| xo_vret (pc := 24) rfl dX14_takeFloat_24

def C_X14_takeFloat : xC := fun av S Q => ∃ (M : Nat) (k : Int) (s : Nat → Value) (lo hi : Int) (nn ls : Bool), av = [.ref M, .long (lN (foB k))] ∧ oF k ∧ mo S.1 M s lo hi nn ls ∧ oF lo ∧ oF hi ∧ ∀ h', xoff h' S.1 M (M + 1) → mo h' M s (min lo k) (max hi k) nn ls → Q none (h', S.2)
theorem cM_X14_takeFloat (G : xG) (l : Launch) : xM G l yX14_takeFloat cX14_takeFloat 3 none r_X14_takeFloat C_X14_takeFloat := by
  refine xM_of (fun Q => b_X14_takeFloat_0 Q) RX14 false (s_X14_takeFloat_0 G l) (by decide) rfl (by decide) ?_
  rintro av ⟨h, S2⟩ Q ⟨M, k, s, lo, hi, nn, ls, rfl, hk, hO, hlo, hhi, hQ⟩
  dsimp only at *
  refine ⟨Nat.le_of_ble_eq_true rfl, ?_⟩
  have hO1 : h M = some (.inr (13, mF M s lo hi nn ls)) := hO
  simp only [x_c, x_iload, x_lload, x_aload, x_istore, x_lstore, x_astore, x_iinc, x_iadd, x_isub, x_imul, x_iand, x_ior, x_ixor, x_ladd, x_lsub, x_lmul, x_land, x_lor, x_lxor, x_idiv, x_irem, x_ldiv, x_lrem, x_ineg, x_lneg, x_ishl, x_ishr, x_iushr, x_lshl, x_lshr, x_lushr, x_i2l, x_l2i, x_i2b, x_i2c, x_lcmp, x_if_eq, x_if_ne, x_if_lt, x_if_ge, x_if_gt, x_if_le, x_icmp_eq, x_icmp_ne, x_icmp_lt, x_icmp_ge, x_icmp_gt, x_icmp_le, x_dup, x_pop, x_dup_x1, x_dup2, x_iret, x_zret, x_lret, x_aret, x_vret, x_call, x_callv, x_calli, x_oinit, x_mmax, x_mmin, x_mabs, x_mmaxL, x_mminL, x_mabsL, lg_cmp_ge, lg_cmp_le, lg_cmp_gt, lg_cmp_lt, lg_cmp_eq, xlk, xs1, xs2, lv_args, Value.category, List.filter_cons, List.filter_nil, Nat.reduceAdd, Nat.reduceBEq, Nat.reduceEqDiff, Nat.reduceSub, Nat.sub_zero, beq_self_eq_true, Bool.not_true, Bool.not_false, Bool.and_true, Bool.and_false, Bool.true_and, Bool.false_and, reduceIte, reduceCtorEq, Bool.false_eq_true, Nat.one_ne_zero, Nat.zero_ne_one, Nat.zero_add, Option.toList_some, Option.toList_none, List.nil_append, List.cons_append, List.take_succ_cons, List.take_zero, List.take_nil, List.drop_succ_cons, List.drop_zero, List.length_cons, List.length_nil, List.reverse_cons, List.reverse_nil, List.head?_cons, List.map_cons, List.map_nil, List.sum_cons, List.sum_nil, true_and, and_true, List.getElem?_cons_zero, List.getElem?_cons_succ, Prod.eta, x_get, x_put, x_iald, x_iast, x_bald, x_bast, x_lald, x_last, x_alen, xup_s, xup_a1, xup_1a, xup_uu, nr_i, nr_l, nr_o, nr_a, ft_i, ft_l, ft_o, ft_a, Nat.reduceLT, i_cl0, i_cl1, i_n1, i_m1, List.set_cons_zero, List.set_cons_succ, Nat.reduceLeDiff, Nat.le_refl, Nat.zero_le, Nat.add_zero, x_no, x_ifnull, x_ifnonnull, x_acmp_eq, x_acmp_ne, x_swl, x_tsw, x_castC, true_or, or_true, nr_z, ft_z, nr_z0, nr_z1, ft_z0, ft_z1, nr_on, nr_an, ft_on, ft_an, b_X14_takeFloat_0, hO1, mF]
  refine ⟨lo, k, rfl, hlo, hk, ?_⟩
  simp only [x_c, x_iload, x_lload, x_aload, x_istore, x_lstore, x_astore, x_iinc, x_iadd, x_isub, x_imul, x_iand, x_ior, x_ixor, x_ladd, x_lsub, x_lmul, x_land, x_lor, x_lxor, x_idiv, x_irem, x_ldiv, x_lrem, x_ineg, x_lneg, x_ishl, x_ishr, x_iushr, x_lshl, x_lshr, x_lushr, x_i2l, x_l2i, x_i2b, x_i2c, x_lcmp, x_if_eq, x_if_ne, x_if_lt, x_if_ge, x_if_gt, x_if_le, x_icmp_eq, x_icmp_ne, x_icmp_lt, x_icmp_ge, x_icmp_gt, x_icmp_le, x_dup, x_pop, x_dup_x1, x_dup2, x_iret, x_zret, x_lret, x_aret, x_vret, x_call, x_callv, x_calli, x_oinit, x_mmax, x_mmin, x_mabs, x_mmaxL, x_mminL, x_mabsL, lg_cmp_ge, lg_cmp_le, lg_cmp_gt, lg_cmp_lt, lg_cmp_eq, xlk, xs1, xs2, lv_args, Value.category, List.filter_cons, List.filter_nil, Nat.reduceAdd, Nat.reduceBEq, Nat.reduceEqDiff, Nat.reduceSub, Nat.sub_zero, beq_self_eq_true, Bool.not_true, Bool.not_false, Bool.and_true, Bool.and_false, Bool.true_and, Bool.false_and, reduceIte, reduceCtorEq, Bool.false_eq_true, Nat.one_ne_zero, Nat.zero_ne_one, Nat.zero_add, Option.toList_some, Option.toList_none, List.nil_append, List.cons_append, List.take_succ_cons, List.take_zero, List.take_nil, List.drop_succ_cons, List.drop_zero, List.length_cons, List.length_nil, List.reverse_cons, List.reverse_nil, List.head?_cons, List.map_cons, List.map_nil, List.sum_cons, List.sum_nil, true_and, and_true, List.getElem?_cons_zero, List.getElem?_cons_succ, Prod.eta, x_get, x_put, x_iald, x_iast, x_bald, x_bast, x_lald, x_last, x_alen, xup_s, xup_a1, xup_1a, xup_uu, nr_i, nr_l, nr_o, nr_a, ft_i, ft_l, ft_o, ft_a, Nat.reduceLT, i_cl0, i_cl1, i_n1, i_m1, List.set_cons_zero, List.set_cons_succ, Nat.reduceLeDiff, Nat.le_refl, Nat.zero_le, Nat.add_zero, x_no, x_ifnull, x_ifnonnull, x_acmp_eq, x_acmp_ne, x_swl, x_tsw, x_castC, true_or, or_true, nr_z, ft_z, nr_z0, nr_z1, ft_z0, ft_z1, nr_on, nr_an, ft_on, ft_an, hO1, mF]
  refine ⟨hi, k, rfl, hhi, hk, ?_⟩
  try simp only [x_c, x_iload, x_lload, x_aload, x_istore, x_lstore, x_astore, x_iinc, x_iadd, x_isub, x_imul, x_iand, x_ior, x_ixor, x_ladd, x_lsub, x_lmul, x_land, x_lor, x_lxor, x_idiv, x_irem, x_ldiv, x_lrem, x_ineg, x_lneg, x_ishl, x_ishr, x_iushr, x_lshl, x_lshr, x_lushr, x_i2l, x_l2i, x_i2b, x_i2c, x_lcmp, x_if_eq, x_if_ne, x_if_lt, x_if_ge, x_if_gt, x_if_le, x_icmp_eq, x_icmp_ne, x_icmp_lt, x_icmp_ge, x_icmp_gt, x_icmp_le, x_dup, x_pop, x_dup_x1, x_dup2, x_iret, x_zret, x_lret, x_aret, x_vret, x_call, x_callv, x_calli, x_oinit, x_mmax, x_mmin, x_mabs, x_mmaxL, x_mminL, x_mabsL, lg_cmp_ge, lg_cmp_le, lg_cmp_gt, lg_cmp_lt, lg_cmp_eq, xlk, xs1, xs2, lv_args, Value.category, List.filter_cons, List.filter_nil, Nat.reduceAdd, Nat.reduceBEq, Nat.reduceEqDiff, Nat.reduceSub, Nat.sub_zero, beq_self_eq_true, Bool.not_true, Bool.not_false, Bool.and_true, Bool.and_false, Bool.true_and, Bool.false_and, reduceIte, reduceCtorEq, Bool.false_eq_true, Nat.one_ne_zero, Nat.zero_ne_one, Nat.zero_add, Option.toList_some, Option.toList_none, List.nil_append, List.cons_append, List.take_succ_cons, List.take_zero, List.take_nil, List.drop_succ_cons, List.drop_zero, List.length_cons, List.length_nil, List.reverse_cons, List.reverse_nil, List.head?_cons, List.map_cons, List.map_nil, List.sum_cons, List.sum_nil, true_and, and_true, List.getElem?_cons_zero, List.getElem?_cons_succ, Prod.eta, x_get, x_put, x_iald, x_iast, x_bald, x_bast, x_lald, x_last, x_alen, xup_s, xup_a1, xup_1a, xup_uu, nr_i, nr_l, nr_o, nr_a, ft_i, ft_l, ft_o, ft_a, Nat.reduceLT, i_cl0, i_cl1, i_n1, i_m1, List.set_cons_zero, List.set_cons_succ, Nat.reduceLeDiff, Nat.le_refl, Nat.zero_le, Nat.add_zero, x_no, x_ifnull, x_ifnonnull, x_acmp_eq, x_acmp_ne, x_swl, x_tsw, x_castC, true_or, or_true, nr_z, ft_z, nr_z0, nr_z1, ft_z0, ft_z1, nr_on, nr_an, ft_on, ft_an]
  exact hQ _ off1 xup_s
theorem dX14_begin_0 : decode cX14_begin 0 = .ok (.aload_n 0, 1) := by decide +kernel
theorem dX14_begin_1 : decode cX14_begin 1 = .ok (.iconst 0, 1) := by decide +kernel
theorem dX14_begin_2 : decode cX14_begin 2 = .ok (.putfield 168, 3) := by decide +kernel
theorem dX14_begin_5 : decode cX14_begin 5 = .ok (.aload_n 0, 1) := by decide +kernel
theorem dX14_begin_6 : decode cX14_begin 6 = .ok (.ldc2_w 61, 3) := by decide +kernel
theorem dX14_begin_9 : decode cX14_begin 9 = .ok (.putfield 171, 3) := by decide +kernel
theorem dX14_begin_12 : decode cX14_begin 12 = .ok (.aload_n 0, 1) := by decide +kernel
theorem dX14_begin_13 : decode cX14_begin 13 = .ok (.ldc2_w 78, 3) := by decide +kernel
theorem dX14_begin_16 : decode cX14_begin 16 = .ok (.putfield 175, 3) := by decide +kernel
theorem dX14_begin_19 : decode cX14_begin 19 = .ok (.aload_n 0, 1) := by decide +kernel
theorem dX14_begin_20 : decode cX14_begin 20 = .ok (.iconst 0, 1) := by decide +kernel
theorem dX14_begin_21 : decode cX14_begin 21 = .ok (.putfield 82, 3) := by decide +kernel
theorem dX14_begin_24 : decode cX14_begin 24 = .ok (.return_, 1) := by decide +kernel
abbrev r_X14_begin : Room := { frames := 0, cells := 0, slots := 0, locals := 0 }
abbrev m_X14_begin : xMd := (cX14_begin, RX14, 1, none, false, r_X14_begin)
def b_X14_begin_0 (Q : xQ) : xK := x_aload 0 <| x_c (.int 0) <| x_put 13 16 .boolean <| x_aload 0 <| x_c (.long 9218868437227405312) <| x_put 13 17 .long <| x_aload 0 <| x_c (.long (-4503599627370496)) <| x_put 13 18 .long <| x_aload 0 <| x_c (.int 0) <| x_put 13 5 .boolean <| x_vret Q
theorem s_X14_begin_0 (G : xG) (l : Launch) (Q : xQ) : xW G l m_X14_begin xX0 (xPm G Q r_X14_begin) 0 (b_X14_begin_0 Q) := xo_aload_n (pc := 0) (i := 0) dX14_begin_0 rfl <| xo_iconst (pc := 1) dX14_begin_1 (by decide) <| xo_put (pc := 2) (ci := 13) (i := 16) rfl ok13 (by decide) rfl rfl dX14_begin_2 kw1217 <| xo_aload_n (pc := 5) (i := 0) dX14_begin_5 rfl <| xo_ldc2_w (pc := 6) dX14_begin_6 kw1304 <| xo_put (pc := 9) (ci := 13) (i := 17) rfl ok13 (by decide) rfl rfl dX14_begin_9 kw1218 <| xo_aload_n (pc := 12) (i := 0) dX14_begin_12 rfl <| xo_ldc2_w (pc := 13) dX14_begin_13 kw1305 <| xo_put (pc := 16) (ci := 13) (i := 18) rfl ok13 (by decide) rfl rfl dX14_begin_16 kw1219 <| xo_aload_n (pc := 19) (i := 0) dX14_begin_19 rfl <| xo_iconst (pc := 20) dX14_begin_20 (by decide) <| xo_put (pc := 21) (ci := 13) (i := 5) rfl ok13 (by decide) rfl rfl dX14_begin_21 kw1206 <| xo_vret (pc := 24) rfl dX14_begin_24

def C_X14_begin : xC := fun av S Q => ∃ (M : Nat) (s : Nat → Value) (lo hi : Int) (nn ls : Bool), av = [.ref M] ∧ mo S.1 M s lo hi nn ls ∧ ∀ h', xoff h' S.1 M (M + 1) → mo h' M s 9218868437227405312 (-9218868437227405312) false false → Q none (h', S.2)
theorem cM_X14_begin (G : xG) (l : Launch) : xM G l yX14_begin cX14_begin 1 none r_X14_begin C_X14_begin := by
  refine xM_of (fun Q => b_X14_begin_0 Q) RX14 false (s_X14_begin_0 G l) (by decide) rfl (by decide) ?_
  rintro av ⟨h, S2⟩ Q ⟨M, s, lo, hi, nn, ls, rfl, hO, hQ⟩
  dsimp only at *
  refine ⟨Nat.le_of_ble_eq_true rfl, ?_⟩
  have hO1 : h M = some (.inr (13, mF M s lo hi nn ls)) := hO
  simp only [x_c, x_iload, x_lload, x_aload, x_istore, x_lstore, x_astore, x_iinc, x_iadd, x_isub, x_imul, x_iand, x_ior, x_ixor, x_ladd, x_lsub, x_lmul, x_land, x_lor, x_lxor, x_idiv, x_irem, x_ldiv, x_lrem, x_ineg, x_lneg, x_ishl, x_ishr, x_iushr, x_lshl, x_lshr, x_lushr, x_i2l, x_l2i, x_i2b, x_i2c, x_lcmp, x_if_eq, x_if_ne, x_if_lt, x_if_ge, x_if_gt, x_if_le, x_icmp_eq, x_icmp_ne, x_icmp_lt, x_icmp_ge, x_icmp_gt, x_icmp_le, x_dup, x_pop, x_dup_x1, x_dup2, x_iret, x_zret, x_lret, x_aret, x_vret, x_call, x_callv, x_calli, x_oinit, x_mmax, x_mmin, x_mabs, x_mmaxL, x_mminL, x_mabsL, lg_cmp_ge, lg_cmp_le, lg_cmp_gt, lg_cmp_lt, lg_cmp_eq, xlk, xs1, xs2, lv_args, Value.category, List.filter_cons, List.filter_nil, Nat.reduceAdd, Nat.reduceBEq, Nat.reduceEqDiff, Nat.reduceSub, Nat.sub_zero, beq_self_eq_true, Bool.not_true, Bool.not_false, Bool.and_true, Bool.and_false, Bool.true_and, Bool.false_and, reduceIte, reduceCtorEq, Bool.false_eq_true, Nat.one_ne_zero, Nat.zero_ne_one, Nat.zero_add, Option.toList_some, Option.toList_none, List.nil_append, List.cons_append, List.take_succ_cons, List.take_zero, List.take_nil, List.drop_succ_cons, List.drop_zero, List.length_cons, List.length_nil, List.reverse_cons, List.reverse_nil, List.head?_cons, List.map_cons, List.map_nil, List.sum_cons, List.sum_nil, true_and, and_true, List.getElem?_cons_zero, List.getElem?_cons_succ, Prod.eta, x_get, x_put, x_iald, x_iast, x_bald, x_bast, x_lald, x_last, x_alen, xup_s, xup_a1, xup_1a, xup_uu, nr_i, nr_l, nr_o, nr_a, ft_i, ft_l, ft_o, ft_a, Nat.reduceLT, i_cl0, i_cl1, i_n1, i_m1, List.set_cons_zero, List.set_cons_succ, Nat.reduceLeDiff, Nat.le_refl, Nat.zero_le, Nat.add_zero, x_no, x_ifnull, x_ifnonnull, x_acmp_eq, x_acmp_ne, x_swl, x_tsw, x_castC, true_or, or_true, nr_z, ft_z, nr_z0, nr_z1, ft_z0, ft_z1, nr_on, nr_an, ft_on, ft_an, b_X14_begin_0, hO1, mF, nr_z, ft_z]
  exact hQ _ off1 (by rw [mo, xup_s]; rfl)
