theorem and_mk {u k : Nat} (hu : u < 2 ^ 64) (hk : k ≤ 64) : u &&& (2 ^ 64 - 2 ^ k) = u / 2 ^ k * 2 ^ k := by
  apply Nat.eq_of_testBit_eq
  intro i
  have e : 2 ^ 64 - 2 ^ k = (2 ^ (64 - k) - 1) * 2 ^ k := by
    rw [Nat.sub_mul, Nat.one_mul, ← Nat.pow_add, show 64 - k + k = 64 by omega]
  rw [Nat.testBit_and, e, Nat.testBit_mul_two_pow, Nat.testBit_mul_two_pow, Nat.testBit_two_pow_sub_one, Nat.testBit_div_two_pow]
  by_cases c : k ≤ i
  · rw [decide_eq_true c, Bool.true_and, Bool.true_and, show i - k + k = i by omega]
    by_cases d : i < 64
    · rw [decide_eq_true (show i - k < 64 - k by omega), Bool.and_true]
    · rw [Nat.testBit_lt_two_pow (Nat.lt_of_lt_of_le hu (Nat.pow_le_pow_right (by decide) (by omega))), Bool.false_and]
  · rw [decide_eq_false c, Bool.false_and, Bool.and_false, Bool.false_and]
theorem l_mk {u k : Nat} (hu : u < 2 ^ 64) (hk : k < 63) : lN u &&& -lN (2 ^ k) = lN (u / 2 ^ k * 2 ^ k) := by
  have p : 2 ^ k < 2 ^ 63 := Nat.pow_lt_pow_right (by decide) hk
  have p0 : 0 < 2 ^ k := Nat.pow_pos (by decide)
  have e : -lN (2 ^ k) = lN (2 ^ 64 - 2 ^ k) := by
    rw [show -lN (2 ^ k) = lN 0 - lN (2 ^ k) by rw [show lN 0 = (0 : Int64) from rfl, Int64.zero_sub], lN_subw (by omega), Nat.zero_add]
  rw [e, wb_and hu (by omega), and_mk hu (by omega)]
theorem iZ_mx0 {z : Int} (h1 : -2147483648 ≤ z) (h2 : z < 2147483648) : (if iZ z < 0 then 0 else iZ z) = nI z.toNat := by
  have t := iZ_toInt h1 h2
  split
  · rename_i y
    rw [i_lt, t, i_0] at y
    rw [show z.toNat = 0 by omega]
    rfl
  · rename_i y
    rw [i_lt, t, i_0] at y
    rw [← iZ_nat, Int.toNat_of_nonneg (by omega)]
theorem lZ_mx {x y : Int} (hx : oF x) (hy : oF y) : (if lZ y < lZ x then lZ x else lZ y) = lZ (max x y) := by
  split <;> rename_i c <;> rw [lZ_ltI hy hx] at c
  · rw [Int.max_eq_left (by omega)]
  · rw [Int.max_eq_right (by omega)]
theorem lZ_mn {x y : Int} (hx : oF x) (hy : oF y) : (if lZ y < lZ x then lZ y else lZ x) = lZ (min x y) := by
  split <;> rename_i c <;> rw [lZ_ltI hy hx] at c
  · rw [Int.min_eq_right (by omega)]
  · rw [Int.min_eq_left (by omega)]
theorem lZ_ab {x : Int} (hx : oF x) : (if 0 < lZ x then lZ x else -lZ x) = lN x.natAbs := by
  split <;> rename_i c <;> rw [lz_gt0 hx] at c
  · rw [← lZ_nat, Int.natAbs_of_nonneg (by omega)]
  · rw [lZ_neg, ← lZ_nat, Int.ofNat_natAbs_of_nonpos (by omega)]
/-- the whole float not above, the next one -/
def ctF (u : Nat) : Nat := if u / 2 ^ 52 < 1023 then 0 else if 1074 < u / 2 ^ 52 then u else u / 2 ^ (1075 - u / 2 ^ 52) * 2 ^ (1075 - u / 2 ^ 52)
theorem ctF_le (u : Nat) : ctF u ≤ u := by
  unfold ctF
  repeat' split
  · omega
  · exact Nat.le_refl _
  · exact Nat.div_mul_le_self _ _
theorem dX4_cut_0 : decode cX4_cut 0 = .ok (.lload_n 0, 1) := by decide +kernel
theorem dX4_cut_1 : decode cX4_cut 1 = .ok (.bipush 52, 2) := by decide +kernel
theorem dX4_cut_3 : decode cX4_cut 3 = .ok (.lushr, 1) := by decide +kernel
theorem dX4_cut_4 : decode cX4_cut 4 = .ok (.l2i, 1) := by decide +kernel
theorem dX4_cut_5 : decode cX4_cut 5 = .ok (.istore_n 2, 1) := by decide +kernel
theorem dX4_cut_6 : decode cX4_cut 6 = .ok (.iload_n 2, 1) := by decide +kernel
theorem dX4_cut_7 : decode cX4_cut 7 = .ok (.sipush 1023, 3) := by decide +kernel
theorem dX4_cut_10 : decode cX4_cut 10 = .ok (.if_icmp .ge 5, 3) := by decide +kernel
theorem dX4_cut_13 : decode cX4_cut 13 = .ok (.lconst 0, 1) := by decide +kernel
theorem dX4_cut_14 : decode cX4_cut 14 = .ok (.lreturn, 1) := by decide +kernel
theorem dX4_cut_15 : decode cX4_cut 15 = .ok (.iload_n 2, 1) := by decide +kernel
theorem dX4_cut_16 : decode cX4_cut 16 = .ok (.sipush 1074, 3) := by decide +kernel
theorem dX4_cut_19 : decode cX4_cut 19 = .ok (.if_icmp .le 7, 3) := by decide +kernel
theorem dX4_cut_22 : decode cX4_cut 22 = .ok (.lload_n 0, 1) := by decide +kernel
theorem dX4_cut_23 : decode cX4_cut 23 = .ok (.goto 13, 3) := by decide +kernel
theorem dX4_cut_26 : decode cX4_cut 26 = .ok (.lload_n 0, 1) := by decide +kernel
theorem dX4_cut_27 : decode cX4_cut 27 = .ok (.lconst 1, 1) := by decide +kernel
theorem dX4_cut_28 : decode cX4_cut 28 = .ok (.sipush 1075, 3) := by decide +kernel
theorem dX4_cut_31 : decode cX4_cut 31 = .ok (.iload_n 2, 1) := by decide +kernel
theorem dX4_cut_32 : decode cX4_cut 32 = .ok (.isub, 1) := by decide +kernel
theorem dX4_cut_33 : decode cX4_cut 33 = .ok (.lshl, 1) := by decide +kernel
theorem dX4_cut_34 : decode cX4_cut 34 = .ok (.lneg, 1) := by decide +kernel
theorem dX4_cut_35 : decode cX4_cut 35 = .ok (.land, 1) := by decide +kernel
theorem dX4_cut_36 : decode cX4_cut 36 = .ok (.lreturn, 1) := by decide +kernel
abbrev r_X4_cut : Room := { frames := 0, cells := 0, slots := 0, locals := 0 }
abbrev m_X4_cut : xMd := (cX4_cut, RX4, 3, (some FieldType.long), false, r_X4_cut)
def b_X4_cut_36 (Q : xQ) : xK := x_lret Q
def b_X4_cut_0 (Q : xQ) : xK := x_lload 0 <| x_c (.int 52) <| x_lushr <| x_l2i <| x_istore 2 <| x_iload 2 <| x_c (.int 1023) <| x_icmp_ge (x_iload 2 <| x_c (.int 1074) <| x_icmp_le (x_lload 0 <| x_c (.long 1) <| x_c (.int 1075) <| x_iload 2 <| x_isub <| x_lshl <| x_lneg <| x_land <| (b_X4_cut_36 Q)) <| x_lload 0 <| (b_X4_cut_36 Q)) <| x_c (.long 0) <| x_lret Q
theorem s_X4_cut_36 (G : xG) (l : Launch) (Q : xQ) : xW G l m_X4_cut xX0 (xPm G Q r_X4_cut) 36 (b_X4_cut_36 Q) := xo_lret (pc := 36) rfl dX4_cut_36
theorem s_X4_cut_0 (G : xG) (l : Launch) (Q : xQ) : xW G l m_X4_cut xX0 (xPm G Q r_X4_cut) 0 (b_X4_cut_0 Q) := xo_lload_n (pc := 0) (i := 0) dX4_cut_0 rfl <| xo_bipush (pc := 1) dX4_cut_1 (by decide) <| xo_lushr (pc := 3) dX4_cut_3 <| xo_l2i (pc := 4) dX4_cut_4 <| xo_istore_n (pc := 5) (i := 2) dX4_cut_5 rfl (by decide) <| xo_iload_n (pc := 6) (i := 2) dX4_cut_6 rfl <| xo_sipush (pc := 7) dX4_cut_7 (by decide) <| xo_icmp_ge (pc := 10) (tgt := 15) dX4_cut_10 (by decide) (xo_iload_n (pc := 15) (i := 2) dX4_cut_15 rfl <| xo_sipush (pc := 16) dX4_cut_16 (by decide) <| xo_icmp_le (pc := 19) (tgt := 26) dX4_cut_19 (by decide) (xo_lload_n (pc := 26) (i := 0) dX4_cut_26 rfl <| xo_lconst (pc := 27) dX4_cut_27 (by decide) <| xo_sipush (pc := 28) dX4_cut_28 (by decide) <| xo_iload_n (pc := 31) (i := 2) dX4_cut_31 rfl <| xo_isub (pc := 32) dX4_cut_32 <| xo_lshl (pc := 33) dX4_cut_33 <| xo_lneg (pc := 34) dX4_cut_34 <| xo_land (pc := 35) dX4_cut_35 <| (s_X4_cut_36 G l Q)) <| xo_lload_n (pc := 22) (i := 0) dX4_cut_22 rfl <| xo_goto (pc := 23) (tgt := 36) dX4_cut_23 (by decide) <| (s_X4_cut_36 G l Q)) <| xo_lconst (pc := 13) dX4_cut_13 (by decide) <| xo_lret (pc := 14) rfl dX4_cut_14

def C_X4_cut : xC := fun av S Q => ∃ u : Nat, av = [.long (lN u)] ∧ u < 2 ^ 63 ∧ Q (some (.long (lN (ctF u)))) S
theorem cM_X4_cut (G : xG) (l : Launch) : xM G l yX4_cut cX4_cut 3 (some FieldType.long) r_X4_cut C_X4_cut := by
  refine xM_of (fun Q => b_X4_cut_0 Q) RX4 false (s_X4_cut_0 G l) (by decide) rfl (by decide) ?_
  rintro av S Q ⟨u, rfl, hu, hQ⟩
  refine ⟨Nat.le_of_ble_eq_true rfl, ?_⟩
  have s52 : ((lN u).toUInt64 >>> ((52 : Int32).toInt64.toUInt64 &&& Int64.toUInt64 63)).toInt64 = lN (u / 2 ^ 52) := wb_shr (k := 52) (by omega) (by decide)
  have c1 : (1023 : Int32) ≤ nI (u / 2 ^ 52) ↔ 1023 ≤ u / 2 ^ 52 := nc_le (a := 1023) (by decide) (by omega)
  have c2 : nI (u / 2 ^ 52) ≤ 1074 ↔ u / 2 ^ 52 ≤ 1074 := nc_le (b := 1074) (by omega) (by decide)
  unfold ctF at hQ
  unfold b_X4_cut_0 b_X4_cut_36
  simp only [q_c, x_iload, x_lload, x_aload, q_istore, q_lstore, q_astore, q_astore2, x_iinc, q_iadd, q_isub, q_imul, q_iand, q_ior, q_ixor, q_ladd, q_lsub, q_lmul, q_land, q_lor, q_lxor, q_idiv, q_irem, q_ldiv, q_lrem, q_ineg, q_lneg, q_ishl, q_ishr, q_iushr, q_lshl, q_lshr, q_lushr, q_i2l, q_l2i, q_i2b, q_i2c, q_lcmp, q_if_eq, q_if_ne, q_if_lt, q_if_ge, q_if_gt, q_if_le, q_icmp_eq, q_icmp_ne, q_icmp_lt, q_icmp_ge, q_icmp_gt, q_icmp_le, q_dup, q_pop, q_dup_x1, q_dup2, x_iret, x_zret, x_lret, x_aret, x_vret, x_call, x_callv, x_calli, x_oinit, x_mmax, x_mmin, x_mabs, x_mmaxL, x_mminL, x_mabsL, lg_cmp_ge, lg_cmp_le, lg_cmp_gt, lg_cmp_lt, lg_cmp_eq, xlk, q_xs1, q_xs2, lv_args, Value.category, List.filter_cons, List.filter_nil, Nat.reduceAdd, Nat.reduceBEq, Nat.reduceEqDiff, Nat.reduceSub, Nat.sub_zero, beq_self_eq_true, Bool.not_true, Bool.not_false, Bool.and_true, Bool.and_false, Bool.true_and, Bool.false_and, reduceIte, reduceCtorEq, Bool.false_eq_true, Nat.one_ne_zero, Nat.zero_ne_one, Nat.zero_add, Option.toList_some, Option.toList_none, List.nil_append, List.cons_append, List.take_succ_cons, List.take_zero, List.take_nil, List.drop_succ_cons, List.drop_zero, List.length_cons, List.length_nil, List.reverse_cons, List.reverse_nil, List.head?_cons, List.map_cons, List.map_nil, List.sum_cons, List.sum_nil, true_and, and_true, List.getElem?_cons_zero, List.getElem?_cons_succ, Prod.eta, x_iast, x_bald, x_bast, x_last, x_alen, xup_s, xup_a1, xup_1a, xup_uu, nr_i, nr_l, nr_o, nr_a, ft_i, ft_l, ft_o, ft_a, Nat.reduceLT, i_cl0, i_cl1, i_n1, i_m1, List.set_cons_zero, List.set_cons_succ, Nat.reduceLeDiff, Nat.le_refl, Nat.zero_le, Nat.add_zero, x_no, x_ifnull, x_ifnonnull, x_acmp_eq, x_acmp_ne, x_swl, x_tsw, x_castC, true_or, or_true, nr_z, ft_z, nr_z0, nr_z1, ft_z0, ft_z1, nr_on, nr_an, ft_on, ft_an, s52, lN_l2i, c1, c2]
  refine ⟨fun a => ⟨fun b => ?_, fun b => ?_⟩, fun a => ?_⟩
  · rw [if_neg (by omega), if_neg (by omega)] at hQ
    have e1 : (1075 : Int32) - nI (u / 2 ^ 52) = nI (1075 - u / 2 ^ 52) := pk_sub (a := 1075) (by omega)
    have e2 : (1 : Int64) <<< ((nI (1075 - u / 2 ^ 52)).toInt64 &&& 63) = lN (2 ^ (1075 - u / 2 ^ 52)) := by
      rw [show (1 : Int64) = lN 1 from rfl, wb_shl 1 (by omega), Nat.one_mul]
    rw [e1, e2, l_mk (by omega) (by omega)]
    exact hQ
  · rw [if_neg (by omega), if_pos (by omega)] at hQ
    exact hQ
  · rw [if_pos (by omega)] at hQ
    exact hQ
def nxF (u : Nat) : Nat := if ctF u = 0 then 4607182418800017408 else ctF u + 2 ^ (1075 - u / 2 ^ 52)
theorem dX4_nextWhole_0 : decode cX4_nextWhole 0 = .ok (.lload_n 0, 1) := by decide +kernel
theorem dX4_nextWhole_1 : decode cX4_nextWhole 1 = .ok (.invokestatic 23, 3) := by decide +kernel
theorem dX4_nextWhole_4 : decode cX4_nextWhole 4 = .ok (.lstore_n 2, 1) := by decide +kernel
theorem dX4_nextWhole_5 : decode cX4_nextWhole 5 = .ok (.lload_n 2, 1) := by decide +kernel
theorem dX4_nextWhole_6 : decode cX4_nextWhole 6 = .ok (.lconst 0, 1) := by decide +kernel
theorem dX4_nextWhole_7 : decode cX4_nextWhole 7 = .ok (.lcmp, 1) := by decide +kernel
theorem dX4_nextWhole_8 : decode cX4_nextWhole 8 = .ok (.ifCond .ne 9, 3) := by decide +kernel
theorem dX4_nextWhole_11 : decode cX4_nextWhole 11 = .ok (.ldc2_w 27, 3) := by decide +kernel
theorem dX4_nextWhole_14 : decode cX4_nextWhole 14 = .ok (.goto 19, 3) := by decide +kernel
theorem dX4_nextWhole_17 : decode cX4_nextWhole 17 = .ok (.lload_n 2, 1) := by decide +kernel
theorem dX4_nextWhole_18 : decode cX4_nextWhole 18 = .ok (.lconst 1, 1) := by decide +kernel
theorem dX4_nextWhole_19 : decode cX4_nextWhole 19 = .ok (.sipush 1075, 3) := by decide +kernel
theorem dX4_nextWhole_22 : decode cX4_nextWhole 22 = .ok (.lload_n 0, 1) := by decide +kernel
theorem dX4_nextWhole_23 : decode cX4_nextWhole 23 = .ok (.invokestatic 29, 3) := by decide +kernel
theorem dX4_nextWhole_26 : decode cX4_nextWhole 26 = .ok (.isub, 1) := by decide +kernel
theorem dX4_nextWhole_27 : decode cX4_nextWhole 27 = .ok (.iconst 0, 1) := by decide +kernel
theorem dX4_nextWhole_28 : decode cX4_nextWhole 28 = .ok (.invokestatic 33, 3) := by decide +kernel
theorem dX4_nextWhole_31 : decode cX4_nextWhole 31 = .ok (.lshl, 1) := by decide +kernel
theorem dX4_nextWhole_32 : decode cX4_nextWhole 32 = .ok (.ladd, 1) := by decide +kernel
theorem dX4_nextWhole_33 : decode cX4_nextWhole 33 = .ok (.lreturn, 1) := by decide +kernel
abbrev r_X4_nextWhole : Room := { frames := 1, cells := 0, slots := 0, locals := 22 }
abbrev m_X4_nextWhole : xMd := (cX4_nextWhole, RX4, 4, (some FieldType.long), false, r_X4_nextWhole)
def b_X4_nextWhole_33 (Q : xQ) : xK := x_lret Q
def b_X4_nextWhole_0 (Q : xQ) : xK := x_lload 0 <| x_call C_X4_cut 1 0 0 <| x_lstore 2 <| x_lload 2 <| x_c (.long 0) <| x_lcmp <| x_if_ne (x_lload 2 <| x_c (.long 1) <| x_c (.int 1075) <| x_lload 0 <| x_call C_X4_scale 1 0 0 <| x_isub <| x_c (.int 0) <| x_mmax <| x_lshl <| x_ladd <| (b_X4_nextWhole_33 Q)) <| x_c (.long 4607182418800017408) <| (b_X4_nextWhole_33 Q)
theorem s_X4_nextWhole_33 (G : xG) (l : Launch) (Q : xQ) : xW G l m_X4_nextWhole xX0 (xPm G Q r_X4_nextWhole) 33 (b_X4_nextWhole_33 Q) := xo_lret (pc := 33) rfl dX4_nextWhole_33
theorem s_X4_nextWhole_0 (G : xG) (l : Launch) (Q : xQ) : xW G l m_X4_nextWhole xX0 (xPm G Q r_X4_nextWhole) 0 (b_X4_nextWhole_0 Q) := xo_lload_n (pc := 0) (i := 0) dX4_nextWhole_0 rfl <| xo_callS (pc := 1) (np := 1) (cM_X4_cut G l) dX4_nextWhole_1 kw888 kw886 kw887 kw25 (by decide +kernel) (by decide) <| xo_lstore_n (pc := 4) (i := 2) dX4_nextWhole_4 rfl (by decide) <| xo_lload_n (pc := 5) (i := 2) dX4_nextWhole_5 rfl <| xo_lconst (pc := 6) dX4_nextWhole_6 (by decide) <| xo_lcmp (pc := 7) dX4_nextWhole_7 <| xo_if_ne (pc := 8) (tgt := 17) dX4_nextWhole_8 (by decide) (xo_lload_n (pc := 17) (i := 2) dX4_nextWhole_17 rfl <| xo_lconst (pc := 18) dX4_nextWhole_18 (by decide) <| xo_sipush (pc := 19) dX4_nextWhole_19 (by decide) <| xo_lload_n (pc := 22) (i := 0) dX4_nextWhole_22 rfl <| xo_callS (pc := 23) (np := 1) (cM_X4_scale G l) dX4_nextWhole_23 kw894 kw892 kw893 kw25 (by decide +kernel) (by decide) <| xo_isub (pc := 26) dX4_nextWhole_26 <| xo_iconst (pc := 27) dX4_nextWhole_27 (by decide) <| xo_mmax (pc := 28) dX4_nextWhole_28 kw895 kw537 kw17 kw538 (by decide) <| xo_lshl (pc := 31) dX4_nextWhole_31 <| xo_ladd (pc := 32) dX4_nextWhole_32 <| (s_X4_nextWhole_33 G l Q)) <| xo_ldc2_w (pc := 11) dX4_nextWhole_11 kw882 <| xo_goto (pc := 14) (tgt := 33) dX4_nextWhole_14 (by decide) <| (s_X4_nextWhole_33 G l Q)

def C_X4_nextWhole : xC := fun av S Q => ∃ u : Nat, av = [.long (lN u)] ∧ u < 2 ^ 63 ∧ Q (some (.long (lN (nxF u)))) S
theorem ctF_0 {u : Nat} (h : ctF u ≠ 0) : 1023 ≤ u / 2 ^ 52 := by
  rcases Nat.lt_or_ge (u / 2 ^ 52) 1023 with c | c
  · exact absurd (if_pos c) h
  · exact c
theorem cM_X4_nextWhole (G : xG) (l : Launch) : xM G l yX4_nextWhole cX4_nextWhole 4 (some FieldType.long) r_X4_nextWhole C_X4_nextWhole := by
  refine xM_of (fun Q => b_X4_nextWhole_0 Q) RX4 false (s_X4_nextWhole_0 G l) (by decide) rfl (by decide) ?_
  rintro av S Q ⟨u, rfl, hu, hQ⟩
  refine ⟨Nat.le_of_ble_eq_true rfl, ?_⟩
  have cl := ctF_le u
  have z0 : lN (ctF u) = 0 ↔ ctF u = 0 := pk_lEQ (b := 0) (by omega) (by decide)
  unfold nxF at hQ
  unfold b_X4_nextWhole_0 b_X4_nextWhole_33
  try simp only [q_c, x_iload, x_lload, x_aload, q_istore, q_lstore, q_astore, q_astore2, x_iinc, q_iadd, q_isub, q_imul, q_iand, q_ior, q_ixor, q_ladd, q_lsub, q_lmul, q_land, q_lor, q_lxor, q_idiv, q_irem, q_ldiv, q_lrem, q_ineg, q_lneg, q_ishl, q_ishr, q_iushr, q_lshl, q_lshr, q_lushr, q_i2l, q_l2i, q_i2b, q_i2c, q_lcmp, q_if_eq, q_if_ne, q_if_lt, q_if_ge, q_if_gt, q_if_le, q_icmp_eq, q_icmp_ne, q_icmp_lt, q_icmp_ge, q_icmp_gt, q_icmp_le, q_dup, q_pop, q_dup_x1, q_dup2, x_iret, x_zret, x_lret, x_aret, x_vret, x_call, x_callv, x_calli, x_oinit, x_mmax, x_mmin, x_mabs, x_mmaxL, x_mminL, x_mabsL, lg_cmp_ge, lg_cmp_le, lg_cmp_gt, lg_cmp_lt, lg_cmp_eq, xlk, q_xs1, q_xs2, lv_args, Value.category, List.filter_cons, List.filter_nil, Nat.reduceAdd, Nat.reduceBEq, Nat.reduceEqDiff, Nat.reduceSub, Nat.sub_zero, beq_self_eq_true, Bool.not_true, Bool.not_false, Bool.and_true, Bool.and_false, Bool.true_and, Bool.false_and, reduceIte, reduceCtorEq, Bool.false_eq_true, Nat.one_ne_zero, Nat.zero_ne_one, Nat.zero_add, Option.toList_some, Option.toList_none, List.nil_append, List.cons_append, List.take_succ_cons, List.take_zero, List.take_nil, List.drop_succ_cons, List.drop_zero, List.length_cons, List.length_nil, List.reverse_cons, List.reverse_nil, List.head?_cons, List.map_cons, List.map_nil, List.sum_cons, List.sum_nil, true_and, and_true, List.getElem?_cons_zero, List.getElem?_cons_succ, Prod.eta, x_iast, x_bald, x_bast, x_last, x_alen, xup_s, xup_a1, xup_1a, xup_uu, nr_i, nr_l, nr_o, nr_a, ft_i, ft_l, ft_o, ft_a, Nat.reduceLT, i_cl0, i_cl1, i_n1, i_m1, List.set_cons_zero, List.set_cons_succ, Nat.reduceLeDiff, Nat.le_refl, Nat.zero_le, Nat.add_zero, x_no, x_ifnull, x_ifnonnull, x_acmp_eq, x_acmp_ne, x_swl, x_tsw, x_castC, true_or, or_true, nr_z, ft_z, nr_z0, nr_z1, ft_z0, ft_z1, nr_on, nr_an, ft_on, ft_an]
  refine ⟨u, rfl, hu, ?_⟩
  simp only [q_c, x_iload, x_lload, x_aload, q_istore, q_lstore, q_astore, q_astore2, x_iinc, q_iadd, q_isub, q_imul, q_iand, q_ior, q_ixor, q_ladd, q_lsub, q_lmul, q_land, q_lor, q_lxor, q_idiv, q_irem, q_ldiv, q_lrem, q_ineg, q_lneg, q_ishl, q_ishr, q_iushr, q_lshl, q_lshr, q_lushr, q_i2l, q_l2i, q_i2b, q_i2c, q_lcmp, q_if_eq, q_if_ne, q_if_lt, q_if_ge, q_if_gt, q_if_le, q_icmp_eq, q_icmp_ne, q_icmp_lt, q_icmp_ge, q_icmp_gt, q_icmp_le, q_dup, q_pop, q_dup_x1, q_dup2, x_iret, x_zret, x_lret, x_aret, x_vret, x_call, x_callv, x_calli, x_oinit, x_mmax, x_mmin, x_mabs, x_mmaxL, x_mminL, x_mabsL, lg_cmp_ge, lg_cmp_le, lg_cmp_gt, lg_cmp_lt, lg_cmp_eq, xlk, q_xs1, q_xs2, lv_args, Value.category, List.filter_cons, List.filter_nil, Nat.reduceAdd, Nat.reduceBEq, Nat.reduceEqDiff, Nat.reduceSub, Nat.sub_zero, beq_self_eq_true, Bool.not_true, Bool.not_false, Bool.and_true, Bool.and_false, Bool.true_and, Bool.false_and, reduceIte, reduceCtorEq, Bool.false_eq_true, Nat.one_ne_zero, Nat.zero_ne_one, Nat.zero_add, Option.toList_some, Option.toList_none, List.nil_append, List.cons_append, List.take_succ_cons, List.take_zero, List.take_nil, List.drop_succ_cons, List.drop_zero, List.length_cons, List.length_nil, List.reverse_cons, List.reverse_nil, List.head?_cons, List.map_cons, List.map_nil, List.sum_cons, List.sum_nil, true_and, and_true, List.getElem?_cons_zero, List.getElem?_cons_succ, Prod.eta, x_iast, x_bald, x_bast, x_last, x_alen, xup_s, xup_a1, xup_1a, xup_uu, nr_i, nr_l, nr_o, nr_a, ft_i, ft_l, ft_o, ft_a, Nat.reduceLT, i_cl0, i_cl1, i_n1, i_m1, List.set_cons_zero, List.set_cons_succ, Nat.reduceLeDiff, Nat.le_refl, Nat.zero_le, Nat.add_zero, x_no, x_ifnull, x_ifnonnull, x_acmp_eq, x_acmp_ne, x_swl, x_tsw, x_castC, true_or, or_true, nr_z, ft_z, nr_z0, nr_z1, ft_z0, ft_z1, nr_on, nr_an, ft_on, ft_an, z0]
  refine ⟨fun a => ⟨u, rfl, hu, ?_⟩, fun a => ?_⟩
  · rw [if_neg a] at hQ
    have s1 := ctF_0 a
    have e2 : ∀ k, k < 63 → (1 : Int64) <<< ((nI k).toInt64 &&& 63) = lN (2 ^ k) := fun k hk => by
      rw [show (1 : Int64) = lN 1 from rfl, wb_shl 1 (by omega), Nat.one_mul]
    have e1 : (1075 : Int32) - nI (u / 2 ^ 52) = iZ (1075 - (u / 2 ^ 52 : Nat)) := by
      rw [← iZ_nat]
      exact iZ_sub 1075 _
    simp only [q_c, x_iload, x_lload, x_aload, q_istore, q_lstore, q_astore, q_astore2, x_iinc, q_iadd, q_isub, q_imul, q_iand, q_ior, q_ixor, q_ladd, q_lsub, q_lmul, q_land, q_lor, q_lxor, q_idiv, q_irem, q_ldiv, q_lrem, q_ineg, q_lneg, q_ishl, q_ishr, q_iushr, q_lshl, q_lshr, q_lushr, q_i2l, q_l2i, q_i2b, q_i2c, q_lcmp, q_if_eq, q_if_ne, q_if_lt, q_if_ge, q_if_gt, q_if_le, q_icmp_eq, q_icmp_ne, q_icmp_lt, q_icmp_ge, q_icmp_gt, q_icmp_le, q_dup, q_pop, q_dup_x1, q_dup2, x_iret, x_zret, x_lret, x_aret, x_vret, x_call, x_callv, x_calli, x_oinit, x_mmax, x_mmin, x_mabs, x_mmaxL, x_mminL, x_mabsL, lg_cmp_ge, lg_cmp_le, lg_cmp_gt, lg_cmp_lt, lg_cmp_eq, xlk, q_xs1, q_xs2, lv_args, Value.category, List.filter_cons, List.filter_nil, Nat.reduceAdd, Nat.reduceBEq, Nat.reduceEqDiff, Nat.reduceSub, Nat.sub_zero, beq_self_eq_true, Bool.not_true, Bool.not_false, Bool.and_true, Bool.and_false, Bool.true_and, Bool.false_and, reduceIte, reduceCtorEq, Bool.false_eq_true, Nat.one_ne_zero, Nat.zero_ne_one, Nat.zero_add, Option.toList_some, Option.toList_none, List.nil_append, List.cons_append, List.take_succ_cons, List.take_zero, List.take_nil, List.drop_succ_cons, List.drop_zero, List.length_cons, List.length_nil, List.reverse_cons, List.reverse_nil, List.head?_cons, List.map_cons, List.map_nil, List.sum_cons, List.sum_nil, true_and, and_true, List.getElem?_cons_zero, List.getElem?_cons_succ, Prod.eta, x_iast, x_bald, x_bast, x_last, x_alen, xup_s, xup_a1, xup_1a, xup_uu, nr_i, nr_l, nr_o, nr_a, ft_i, ft_l, ft_o, ft_a, Nat.reduceLT, i_cl0, i_cl1, i_n1, i_m1, List.set_cons_zero, List.set_cons_succ, Nat.reduceLeDiff, Nat.le_refl, Nat.zero_le, Nat.add_zero, x_no, x_ifnull, x_ifnonnull, x_acmp_eq, x_acmp_ne, x_swl, x_tsw, x_castC, true_or, or_true, nr_z, ft_z, nr_z0, nr_z1, ft_z0, ft_z1, nr_on, nr_an, ft_on, ft_an, e1]
    rw [iZ_mx0 (by omega) (by omega), show (1075 - (u / 2 ^ 52 : Nat) : Int).toNat = 1075 - u / 2 ^ 52 by omega, e2 _ (by omega), lN_add]
    exact hQ
  · rw [if_pos a] at hQ
    rw [lONE]
    exact hQ
theorem dX4_raised_0 : decode cX4_raised 0 = .ok (.lload_n 0, 1) := by decide +kernel
theorem dX4_raised_1 : decode cX4_raised 1 = .ok (.invokestatic 23, 3) := by decide +kernel
theorem dX4_raised_4 : decode cX4_raised 4 = .ok (.lload_n 0, 1) := by decide +kernel
theorem dX4_raised_5 : decode cX4_raised 5 = .ok (.lcmp, 1) := by decide +kernel
theorem dX4_raised_6 : decode cX4_raised 6 = .ok (.ifCond .ne 7, 3) := by decide +kernel
theorem dX4_raised_9 : decode cX4_raised 9 = .ok (.lload_n 0, 1) := by decide +kernel
theorem dX4_raised_10 : decode cX4_raised 10 = .ok (.goto 7, 3) := by decide +kernel
theorem dX4_raised_13 : decode cX4_raised 13 = .ok (.lload_n 0, 1) := by decide +kernel
theorem dX4_raised_14 : decode cX4_raised 14 = .ok (.invokestatic 39, 3) := by decide +kernel
theorem dX4_raised_17 : decode cX4_raised 17 = .ok (.lreturn, 1) := by decide +kernel
abbrev r_X4_raised : Room := { frames := 2, cells := 0, slots := 0, locals := 45 }
abbrev m_X4_raised : xMd := (cX4_raised, RX4, 2, (some FieldType.long), false, r_X4_raised)
def b_X4_raised_17 (Q : xQ) : xK := x_lret Q
def b_X4_raised_0 (Q : xQ) : xK := x_lload 0 <| x_call C_X4_cut 1 0 0 <| x_lload 0 <| x_lcmp <| x_if_ne (x_lload 0 <| x_call C_X4_nextWhole 1 0 0 <| (b_X4_raised_17 Q)) <| x_lload 0 <| (b_X4_raised_17 Q)
theorem s_X4_raised_17 (G : xG) (l : Launch) (Q : xQ) : xW G l m_X4_raised xX0 (xPm G Q r_X4_raised) 17 (b_X4_raised_17 Q) := xo_lret (pc := 17) rfl dX4_raised_17
theorem s_X4_raised_0 (G : xG) (l : Launch) (Q : xQ) : xW G l m_X4_raised xX0 (xPm G Q r_X4_raised) 0 (b_X4_raised_0 Q) := xo_lload_n (pc := 0) (i := 0) dX4_raised_0 rfl <| xo_callS (pc := 1) (np := 1) (cM_X4_cut G l) dX4_raised_1 kw888 kw886 kw887 kw25 (by decide +kernel) (by decide) <| xo_lload_n (pc := 4) (i := 0) dX4_raised_4 rfl <| xo_lcmp (pc := 5) dX4_raised_5 <| xo_if_ne (pc := 6) (tgt := 13) dX4_raised_6 (by decide) (xo_lload_n (pc := 13) (i := 0) dX4_raised_13 rfl <| xo_callS (pc := 14) (np := 1) (cM_X4_nextWhole G l) dX4_raised_14 kw891 kw889 kw890 kw25 (by decide +kernel) (by decide) <| (s_X4_raised_17 G l Q)) <| xo_lload_n (pc := 9) (i := 0) dX4_raised_9 rfl <| xo_goto (pc := 10) (tgt := 17) dX4_raised_10 (by decide) <| (s_X4_raised_17 G l Q)

def rsF (u : Nat) : Nat := if ctF u = u then u else nxF u
def C_X4_raised : xC := fun av S Q => ∃ u : Nat, av = [.long (lN u)] ∧ u < 2 ^ 63 ∧ Q (some (.long (lN (rsF u)))) S
theorem cM_X4_raised (G : xG) (l : Launch) : xM G l yX4_raised cX4_raised 2 (some FieldType.long) r_X4_raised C_X4_raised := by
  refine xM_of (fun Q => b_X4_raised_0 Q) RX4 false (s_X4_raised_0 G l) (by decide) rfl (by decide) ?_
  rintro av S Q ⟨u, rfl, hu, hQ⟩
  refine ⟨Nat.le_of_ble_eq_true rfl, ?_⟩
  have cl := ctF_le u
  have z0 : lN (ctF u) = lN u ↔ ctF u = u := pk_lEQ (by omega) (by omega)
  unfold rsF at hQ
  unfold b_X4_raised_0 b_X4_raised_17
  try simp only [q_c, x_iload, x_lload, x_aload, q_istore, q_lstore, q_astore, q_astore2, x_iinc, q_iadd, q_isub, q_imul, q_iand, q_ior, q_ixor, q_ladd, q_lsub, q_lmul, q_land, q_lor, q_lxor, q_idiv, q_irem, q_ldiv, q_lrem, q_ineg, q_lneg, q_ishl, q_ishr, q_iushr, q_lshl, q_lshr, q_lushr, q_i2l, q_l2i, q_i2b, q_i2c, q_lcmp, q_if_eq, q_if_ne, q_if_lt, q_if_ge, q_if_gt, q_if_le, q_icmp_eq, q_icmp_ne, q_icmp_lt, q_icmp_ge, q_icmp_gt, q_icmp_le, q_dup, q_pop, q_dup_x1, q_dup2, x_iret, x_zret, x_lret, x_aret, x_vret, x_call, x_callv, x_calli, x_oinit, x_mmax, x_mmin, x_mabs, x_mmaxL, x_mminL, x_mabsL, lg_cmp_ge, lg_cmp_le, lg_cmp_gt, lg_cmp_lt, lg_cmp_eq, xlk, q_xs1, q_xs2, lv_args, Value.category, List.filter_cons, List.filter_nil, Nat.reduceAdd, Nat.reduceBEq, Nat.reduceEqDiff, Nat.reduceSub, Nat.sub_zero, beq_self_eq_true, Bool.not_true, Bool.not_false, Bool.and_true, Bool.and_false, Bool.true_and, Bool.false_and, reduceIte, reduceCtorEq, Bool.false_eq_true, Nat.one_ne_zero, Nat.zero_ne_one, Nat.zero_add, Option.toList_some, Option.toList_none, List.nil_append, List.cons_append, List.take_succ_cons, List.take_zero, List.take_nil, List.drop_succ_cons, List.drop_zero, List.length_cons, List.length_nil, List.reverse_cons, List.reverse_nil, List.head?_cons, List.map_cons, List.map_nil, List.sum_cons, List.sum_nil, true_and, and_true, List.getElem?_cons_zero, List.getElem?_cons_succ, Prod.eta, x_iast, x_bald, x_bast, x_last, x_alen, xup_s, xup_a1, xup_1a, xup_uu, nr_i, nr_l, nr_o, nr_a, ft_i, ft_l, ft_o, ft_a, Nat.reduceLT, i_cl0, i_cl1, i_n1, i_m1, List.set_cons_zero, List.set_cons_succ, Nat.reduceLeDiff, Nat.le_refl, Nat.zero_le, Nat.add_zero, x_no, x_ifnull, x_ifnonnull, x_acmp_eq, x_acmp_ne, x_swl, x_tsw, x_castC, true_or, or_true, nr_z, ft_z, nr_z0, nr_z1, ft_z0, ft_z1, nr_on, nr_an, ft_on, ft_an]
  refine ⟨u, rfl, hu, ?_⟩
  simp only [q_c, x_iload, x_lload, x_aload, q_istore, q_lstore, q_astore, q_astore2, x_iinc, q_iadd, q_isub, q_imul, q_iand, q_ior, q_ixor, q_ladd, q_lsub, q_lmul, q_land, q_lor, q_lxor, q_idiv, q_irem, q_ldiv, q_lrem, q_ineg, q_lneg, q_ishl, q_ishr, q_iushr, q_lshl, q_lshr, q_lushr, q_i2l, q_l2i, q_i2b, q_i2c, q_lcmp, q_if_eq, q_if_ne, q_if_lt, q_if_ge, q_if_gt, q_if_le, q_icmp_eq, q_icmp_ne, q_icmp_lt, q_icmp_ge, q_icmp_gt, q_icmp_le, q_dup, q_pop, q_dup_x1, q_dup2, x_iret, x_zret, x_lret, x_aret, x_vret, x_call, x_callv, x_calli, x_oinit, x_mmax, x_mmin, x_mabs, x_mmaxL, x_mminL, x_mabsL, lg_cmp_ge, lg_cmp_le, lg_cmp_gt, lg_cmp_lt, lg_cmp_eq, xlk, q_xs1, q_xs2, lv_args, Value.category, List.filter_cons, List.filter_nil, Nat.reduceAdd, Nat.reduceBEq, Nat.reduceEqDiff, Nat.reduceSub, Nat.sub_zero, beq_self_eq_true, Bool.not_true, Bool.not_false, Bool.and_true, Bool.and_false, Bool.true_and, Bool.false_and, reduceIte, reduceCtorEq, Bool.false_eq_true, Nat.one_ne_zero, Nat.zero_ne_one, Nat.zero_add, Option.toList_some, Option.toList_none, List.nil_append, List.cons_append, List.take_succ_cons, List.take_zero, List.take_nil, List.drop_succ_cons, List.drop_zero, List.length_cons, List.length_nil, List.reverse_cons, List.reverse_nil, List.head?_cons, List.map_cons, List.map_nil, List.sum_cons, List.sum_nil, true_and, and_true, List.getElem?_cons_zero, List.getElem?_cons_succ, Prod.eta, x_iast, x_bald, x_bast, x_last, x_alen, xup_s, xup_a1, xup_1a, xup_uu, nr_i, nr_l, nr_o, nr_a, ft_i, ft_l, ft_o, ft_a, Nat.reduceLT, i_cl0, i_cl1, i_n1, i_m1, List.set_cons_zero, List.set_cons_succ, Nat.reduceLeDiff, Nat.le_refl, Nat.zero_le, Nat.add_zero, x_no, x_ifnull, x_ifnonnull, x_acmp_eq, x_acmp_ne, x_swl, x_tsw, x_castC, true_or, or_true, nr_z, ft_z, nr_z0, nr_z1, ft_z0, ft_z1, nr_on, nr_an, ft_on, ft_an, z0]
  refine ⟨fun a => ⟨u, rfl, hu, ?_⟩, fun a => ?_⟩
  · rw [if_neg a] at hQ
    try simp only [q_c, x_iload, x_lload, x_aload, q_istore, q_lstore, q_astore, q_astore2, x_iinc, q_iadd, q_isub, q_imul, q_iand, q_ior, q_ixor, q_ladd, q_lsub, q_lmul, q_land, q_lor, q_lxor, q_idiv, q_irem, q_ldiv, q_lrem, q_ineg, q_lneg, q_ishl, q_ishr, q_iushr, q_lshl, q_lshr, q_lushr, q_i2l, q_l2i, q_i2b, q_i2c, q_lcmp, q_if_eq, q_if_ne, q_if_lt, q_if_ge, q_if_gt, q_if_le, q_icmp_eq, q_icmp_ne, q_icmp_lt, q_icmp_ge, q_icmp_gt, q_icmp_le, q_dup, q_pop, q_dup_x1, q_dup2, x_iret, x_zret, x_lret, x_aret, x_vret, x_call, x_callv, x_calli, x_oinit, x_mmax, x_mmin, x_mabs, x_mmaxL, x_mminL, x_mabsL, lg_cmp_ge, lg_cmp_le, lg_cmp_gt, lg_cmp_lt, lg_cmp_eq, xlk, q_xs1, q_xs2, lv_args, Value.category, List.filter_cons, List.filter_nil, Nat.reduceAdd, Nat.reduceBEq, Nat.reduceEqDiff, Nat.reduceSub, Nat.sub_zero, beq_self_eq_true, Bool.not_true, Bool.not_false, Bool.and_true, Bool.and_false, Bool.true_and, Bool.false_and, reduceIte, reduceCtorEq, Bool.false_eq_true, Nat.one_ne_zero, Nat.zero_ne_one, Nat.zero_add, Option.toList_some, Option.toList_none, List.nil_append, List.cons_append, List.take_succ_cons, List.take_zero, List.take_nil, List.drop_succ_cons, List.drop_zero, List.length_cons, List.length_nil, List.reverse_cons, List.reverse_nil, List.head?_cons, List.map_cons, List.map_nil, List.sum_cons, List.sum_nil, true_and, and_true, List.getElem?_cons_zero, List.getElem?_cons_succ, Prod.eta, x_iast, x_bald, x_bast, x_last, x_alen, xup_s, xup_a1, xup_1a, xup_uu, nr_i, nr_l, nr_o, nr_a, ft_i, ft_l, ft_o, ft_a, Nat.reduceLT, i_cl0, i_cl1, i_n1, i_m1, List.set_cons_zero, List.set_cons_succ, Nat.reduceLeDiff, Nat.le_refl, Nat.zero_le, Nat.add_zero, x_no, x_ifnull, x_ifnonnull, x_acmp_eq, x_acmp_ne, x_swl, x_tsw, x_castC, true_or, or_true, nr_z, ft_z, nr_z0, nr_z1, ft_z0, ft_z1, nr_on, nr_an, ft_on, ft_an]
    exact hQ
  · rw [if_pos a] at hQ
    exact hQ
theorem dX4_mayHaveHalf_0 : decode cX4_mayHaveHalf 0 = .ok (.lload_n 0, 1) := by decide +kernel
theorem dX4_mayHaveHalf_1 : decode cX4_mayHaveHalf 1 = .ok (.invokestatic 29, 3) := by decide +kernel
theorem dX4_mayHaveHalf_4 : decode cX4_mayHaveHalf 4 = .ok (.sipush 1022, 3) := by decide +kernel
theorem dX4_mayHaveHalf_7 : decode cX4_mayHaveHalf 7 = .ok (.if_icmp .lt 17, 3) := by decide +kernel
theorem dX4_mayHaveHalf_10 : decode cX4_mayHaveHalf 10 = .ok (.lload_n 0, 1) := by decide +kernel
theorem dX4_mayHaveHalf_11 : decode cX4_mayHaveHalf 11 = .ok (.invokestatic 29, 3) := by decide +kernel
theorem dX4_mayHaveHalf_14 : decode cX4_mayHaveHalf 14 = .ok (.sipush 1074, 3) := by decide +kernel
theorem dX4_mayHaveHalf_17 : decode cX4_mayHaveHalf 17 = .ok (.if_icmp .gt 7, 3) := by decide +kernel
theorem dX4_mayHaveHalf_20 : decode cX4_mayHaveHalf 20 = .ok (.iconst 1, 1) := by decide +kernel
theorem dX4_mayHaveHalf_21 : decode cX4_mayHaveHalf 21 = .ok (.goto 4, 3) := by decide +kernel
theorem dX4_mayHaveHalf_24 : decode cX4_mayHaveHalf 24 = .ok (.iconst 0, 1) := by decide +kernel
theorem dX4_mayHaveHalf_25 : decode cX4_mayHaveHalf 25 = .ok (.ireturn, 1) := by decide +kernel
abbrev r_X4_mayHaveHalf : Room := { frames := 1, cells := 0, slots := 0, locals := 21 }
abbrev m_X4_mayHaveHalf : xMd := (cX4_mayHaveHalf, RX4, 2, (some FieldType.boolean), false, r_X4_mayHaveHalf)
def b_X4_mayHaveHalf_25 (Q : xQ) : xK := x_zret FieldType.boolean Q
def b_X4_mayHaveHalf_24 (Q : xQ) : xK := x_c (.int 0) <| (b_X4_mayHaveHalf_25 Q)
def b_X4_mayHaveHalf_0 (Q : xQ) : xK := x_lload 0 <| x_call C_X4_scale 1 0 0 <| x_c (.int 1022) <| x_icmp_lt ((b_X4_mayHaveHalf_24 Q)) <| x_lload 0 <| x_call C_X4_scale 1 0 0 <| x_c (.int 1074) <| x_icmp_gt ((b_X4_mayHaveHalf_24 Q)) <| x_c (.int 1) <| (b_X4_mayHaveHalf_25 Q)
theorem s_X4_mayHaveHalf_25 (G : xG) (l : Launch) (Q : xQ) : xW G l m_X4_mayHaveHalf xX0 (xPm G Q r_X4_mayHaveHalf) 25 (b_X4_mayHaveHalf_25 Q) := xo_zret (pc := 25) rfl dX4_mayHaveHalf_25
theorem s_X4_mayHaveHalf_24 (G : xG) (l : Launch) (Q : xQ) : xW G l m_X4_mayHaveHalf xX0 (xPm G Q r_X4_mayHaveHalf) 24 (b_X4_mayHaveHalf_24 Q) := xo_iconst (pc := 24) dX4_mayHaveHalf_24 (by decide) <| (s_X4_mayHaveHalf_25 G l Q)
theorem s_X4_mayHaveHalf_0 (G : xG) (l : Launch) (Q : xQ) : xW G l m_X4_mayHaveHalf xX0 (xPm G Q r_X4_mayHaveHalf) 0 (b_X4_mayHaveHalf_0 Q) := xo_lload_n (pc := 0) (i := 0) dX4_mayHaveHalf_0 rfl <| xo_callS (pc := 1) (np := 1) (cM_X4_scale G l) dX4_mayHaveHalf_1 kw894 kw892 kw893 kw25 (by decide +kernel) (by decide) <| xo_sipush (pc := 4) dX4_mayHaveHalf_4 (by decide) <| xo_icmp_lt (pc := 7) (tgt := 24) dX4_mayHaveHalf_7 (by decide) ((s_X4_mayHaveHalf_24 G l Q)) <| xo_lload_n (pc := 10) (i := 0) dX4_mayHaveHalf_10 rfl <| xo_callS (pc := 11) (np := 1) (cM_X4_scale G l) dX4_mayHaveHalf_11 kw894 kw892 kw893 kw25 (by decide +kernel) (by decide) <| xo_sipush (pc := 14) dX4_mayHaveHalf_14 (by decide) <| xo_icmp_gt (pc := 17) (tgt := 24) dX4_mayHaveHalf_17 (by decide) ((s_X4_mayHaveHalf_24 G l Q)) <| xo_iconst (pc := 20) dX4_mayHaveHalf_20 (by decide) <| xo_goto (pc := 21) (tgt := 25) dX4_mayHaveHalf_21 (by decide) <| (s_X4_mayHaveHalf_25 G l Q)

def mhB (u : Nat) : Bool := decide (1022 ≤ u / 2 ^ 52 ∧ u / 2 ^ 52 ≤ 1074)
def C_X4_mayHaveHalf : xC := fun av S Q => ∃ u : Nat, av = [.long (lN u)] ∧ u < 2 ^ 63 ∧ Q (some (.int (bI (mhB u)))) S
theorem cM_X4_mayHaveHalf (G : xG) (l : Launch) : xM G l yX4_mayHaveHalf cX4_mayHaveHalf 2 (some FieldType.boolean) r_X4_mayHaveHalf C_X4_mayHaveHalf := by
  refine xM_of (fun Q => b_X4_mayHaveHalf_0 Q) RX4 false (s_X4_mayHaveHalf_0 G l) (by decide) rfl (by decide) ?_
  rintro av S Q ⟨u, rfl, hu, hQ⟩
  refine ⟨Nat.le_of_ble_eq_true rfl, ?_⟩
  have fin : ∀ t, t = mhB u → Q (some (.int (bI t))) S := fun t ht => by rw [ht]; exact hQ
  have c1 : nI (u / 2 ^ 52) < 1022 ↔ u / 2 ^ 52 < 1022 := nc_lt (b := 1022) (by omega) (by decide)
  have c2 : (1074 : Int32) < nI (u / 2 ^ 52) ↔ 1074 < u / 2 ^ 52 := nc_lt (a := 1074) (by decide) (by omega)
  simp only [q_c, x_iload, x_lload, x_aload, q_istore, q_lstore, q_astore, q_astore2, x_iinc, q_iadd, q_isub, q_imul, q_iand, q_ior, q_ixor, q_ladd, q_lsub, q_lmul, q_land, q_lor, q_lxor, q_idiv, q_irem, q_ldiv, q_lrem, q_ineg, q_lneg, q_ishl, q_ishr, q_iushr, q_lshl, q_lshr, q_lushr, q_i2l, q_l2i, q_i2b, q_i2c, q_lcmp, q_if_eq, q_if_ne, q_if_lt, q_if_ge, q_if_gt, q_if_le, q_icmp_eq, q_icmp_ne, q_icmp_lt, q_icmp_ge, q_icmp_gt, q_icmp_le, q_dup, q_pop, q_dup_x1, q_dup2, x_iret, x_zret, x_lret, x_aret, x_vret, x_call, x_callv, x_calli, x_oinit, x_mmax, x_mmin, x_mabs, x_mmaxL, x_mminL, x_mabsL, lg_cmp_ge, lg_cmp_le, lg_cmp_gt, lg_cmp_lt, lg_cmp_eq, xlk, q_xs1, q_xs2, lv_args, Value.category, List.filter_cons, List.filter_nil, Nat.reduceAdd, Nat.reduceBEq, Nat.reduceEqDiff, Nat.reduceSub, Nat.sub_zero, beq_self_eq_true, Bool.not_true, Bool.not_false, Bool.and_true, Bool.and_false, Bool.true_and, Bool.false_and, reduceIte, reduceCtorEq, Bool.false_eq_true, Nat.one_ne_zero, Nat.zero_ne_one, Nat.zero_add, Option.toList_some, Option.toList_none, List.nil_append, List.cons_append, List.take_succ_cons, List.take_zero, List.take_nil, List.drop_succ_cons, List.drop_zero, List.length_cons, List.length_nil, List.reverse_cons, List.reverse_nil, List.head?_cons, List.map_cons, List.map_nil, List.sum_cons, List.sum_nil, true_and, and_true, List.getElem?_cons_zero, List.getElem?_cons_succ, Prod.eta, x_iast, x_bald, x_bast, x_last, x_alen, xup_s, xup_a1, xup_1a, xup_uu, nr_i, nr_l, nr_o, nr_a, ft_i, ft_l, ft_o, ft_a, Nat.reduceLT, i_cl0, i_cl1, i_n1, i_m1, List.set_cons_zero, List.set_cons_succ, Nat.reduceLeDiff, Nat.le_refl, Nat.zero_le, Nat.add_zero, x_no, x_ifnull, x_ifnonnull, x_acmp_eq, x_acmp_ne, x_swl, x_tsw, x_castC, true_or, or_true, nr_z, ft_z, nr_z0, nr_z1, ft_z0, ft_z1, nr_on, nr_an, ft_on, ft_an, b_X4_mayHaveHalf_0, b_X4_mayHaveHalf_24, b_X4_mayHaveHalf_25]
  refine ⟨u, rfl, hu, ?_⟩
  simp only [q_c, x_iload, x_lload, x_aload, q_istore, q_lstore, q_astore, q_astore2, x_iinc, q_iadd, q_isub, q_imul, q_iand, q_ior, q_ixor, q_ladd, q_lsub, q_lmul, q_land, q_lor, q_lxor, q_idiv, q_irem, q_ldiv, q_lrem, q_ineg, q_lneg, q_ishl, q_ishr, q_iushr, q_lshl, q_lshr, q_lushr, q_i2l, q_l2i, q_i2b, q_i2c, q_lcmp, q_if_eq, q_if_ne, q_if_lt, q_if_ge, q_if_gt, q_if_le, q_icmp_eq, q_icmp_ne, q_icmp_lt, q_icmp_ge, q_icmp_gt, q_icmp_le, q_dup, q_pop, q_dup_x1, q_dup2, x_iret, x_zret, x_lret, x_aret, x_vret, x_call, x_callv, x_calli, x_oinit, x_mmax, x_mmin, x_mabs, x_mmaxL, x_mminL, x_mabsL, lg_cmp_ge, lg_cmp_le, lg_cmp_gt, lg_cmp_lt, lg_cmp_eq, xlk, q_xs1, q_xs2, lv_args, Value.category, List.filter_cons, List.filter_nil, Nat.reduceAdd, Nat.reduceBEq, Nat.reduceEqDiff, Nat.reduceSub, Nat.sub_zero, beq_self_eq_true, Bool.not_true, Bool.not_false, Bool.and_true, Bool.and_false, Bool.true_and, Bool.false_and, reduceIte, reduceCtorEq, Bool.false_eq_true, Nat.one_ne_zero, Nat.zero_ne_one, Nat.zero_add, Option.toList_some, Option.toList_none, List.nil_append, List.cons_append, List.take_succ_cons, List.take_zero, List.take_nil, List.drop_succ_cons, List.drop_zero, List.length_cons, List.length_nil, List.reverse_cons, List.reverse_nil, List.head?_cons, List.map_cons, List.map_nil, List.sum_cons, List.sum_nil, true_and, and_true, List.getElem?_cons_zero, List.getElem?_cons_succ, Prod.eta, x_iast, x_bald, x_bast, x_last, x_alen, xup_s, xup_a1, xup_1a, xup_uu, nr_i, nr_l, nr_o, nr_a, ft_i, ft_l, ft_o, ft_a, Nat.reduceLT, i_cl0, i_cl1, i_n1, i_m1, List.set_cons_zero, List.set_cons_succ, Nat.reduceLeDiff, Nat.le_refl, Nat.zero_le, Nat.add_zero, x_no, x_ifnull, x_ifnonnull, x_acmp_eq, x_acmp_ne, x_swl, x_tsw, x_castC, true_or, or_true, nr_z, ft_z, nr_z0, nr_z1, ft_z0, ft_z1, nr_on, nr_an, ft_on, ft_an, c1]
  refine ⟨fun a => fin false ?_, fun a => ⟨u, rfl, hu, ?_⟩⟩
  · unfold mhB
    rw [decide_eq_false (by omega)]
  · simp only [q_c, x_iload, x_lload, x_aload, q_istore, q_lstore, q_astore, q_astore2, x_iinc, q_iadd, q_isub, q_imul, q_iand, q_ior, q_ixor, q_ladd, q_lsub, q_lmul, q_land, q_lor, q_lxor, q_idiv, q_irem, q_ldiv, q_lrem, q_ineg, q_lneg, q_ishl, q_ishr, q_iushr, q_lshl, q_lshr, q_lushr, q_i2l, q_l2i, q_i2b, q_i2c, q_lcmp, q_if_eq, q_if_ne, q_if_lt, q_if_ge, q_if_gt, q_if_le, q_icmp_eq, q_icmp_ne, q_icmp_lt, q_icmp_ge, q_icmp_gt, q_icmp_le, q_dup, q_pop, q_dup_x1, q_dup2, x_iret, x_zret, x_lret, x_aret, x_vret, x_call, x_callv, x_calli, x_oinit, x_mmax, x_mmin, x_mabs, x_mmaxL, x_mminL, x_mabsL, lg_cmp_ge, lg_cmp_le, lg_cmp_gt, lg_cmp_lt, lg_cmp_eq, xlk, q_xs1, q_xs2, lv_args, Value.category, List.filter_cons, List.filter_nil, Nat.reduceAdd, Nat.reduceBEq, Nat.reduceEqDiff, Nat.reduceSub, Nat.sub_zero, beq_self_eq_true, Bool.not_true, Bool.not_false, Bool.and_true, Bool.and_false, Bool.true_and, Bool.false_and, reduceIte, reduceCtorEq, Bool.false_eq_true, Nat.one_ne_zero, Nat.zero_ne_one, Nat.zero_add, Option.toList_some, Option.toList_none, List.nil_append, List.cons_append, List.take_succ_cons, List.take_zero, List.take_nil, List.drop_succ_cons, List.drop_zero, List.length_cons, List.length_nil, List.reverse_cons, List.reverse_nil, List.head?_cons, List.map_cons, List.map_nil, List.sum_cons, List.sum_nil, true_and, and_true, List.getElem?_cons_zero, List.getElem?_cons_succ, Prod.eta, x_iast, x_bald, x_bast, x_last, x_alen, xup_s, xup_a1, xup_1a, xup_uu, nr_i, nr_l, nr_o, nr_a, ft_i, ft_l, ft_o, ft_a, Nat.reduceLT, i_cl0, i_cl1, i_n1, i_m1, List.set_cons_zero, List.set_cons_succ, Nat.reduceLeDiff, Nat.le_refl, Nat.zero_le, Nat.add_zero, x_no, x_ifnull, x_ifnonnull, x_acmp_eq, x_acmp_ne, x_swl, x_tsw, x_castC, true_or, or_true, nr_z, ft_z, nr_z0, nr_z1, ft_z0, ft_z1, nr_on, nr_an, ft_on, ft_an, c2]
    refine ⟨fun b => fin false ?_, fun b => fin true ?_⟩
    · unfold mhB
      rw [decide_eq_false (by omega)]
    · unfold mhB
      rw [decide_eq_true (by omega)]
theorem l_hf {e : Nat} (h1 : 1022 ≤ e) (h2 : e ≤ 1074) : (1 : Int64) <<< (((1074 : Int32) - nI e).toInt64 &&& 63) = lN (2 ^ (1074 - e)) := by
  have e1 : (1074 : Int32) - nI e = nI (1074 - e) := pk_sub (a := 1074) (by omega)
  rw [e1, show (1 : Int64) = lN 1 from rfl, wb_shl 1 (by omega), Nat.one_mul]
theorem l_tw {k : Nat} : (2 : Int64) * lN (2 ^ k) = lN (2 ^ (k + 1)) := by
  rw [show (2 : Int64) = lN 2 from rfl, lN_mul, Nat.pow_succ, Nat.mul_comm]
theorem l_bh {u e : Nat} (h1 : 1022 ≤ e) (h2 : e ≤ 1074) : lN (fP u) &&& ((2 : Int64) * lN (2 ^ (1074 - e)) - 1) = lN (fP u % 2 ^ (1075 - e)) := by
  have fl := fP_lt u
  rw [l_tw, show 1074 - e + 1 = 1075 - e by omega, show (1 : Int64) = lN 1 from rfl, lN_sub Nat.one_le_two_pow, wb_mask (by omega) (by omega)]
theorem and_one2 (n k : Nat) : n &&& 2 ^ k = n / 2 ^ k % 2 * 2 ^ k := by
  apply Nat.eq_of_testBit_eq
  intro i
  rw [Nat.testBit_and, Nat.testBit_mul_two_pow, Nat.testBit_two_pow]
  have e := Nat.testBit_eq_decide_div_mod_eq (x := n) (i := k)
  rcases Nat.lt_trichotomy k i with c | c | c
  · rw [decide_eq_false (by omega), Bool.and_false, decide_eq_true (by omega), Bool.true_and]
    rw [Nat.testBit_lt_two_pow]
    have : n / 2 ^ k % 2 < 2 := Nat.mod_lt _ (by decide)
    exact Nat.lt_of_lt_of_le this (Nat.le_self_pow (by omega) 2)
  · subst c
    rw [decide_eq_true rfl, Bool.and_true, decide_eq_true (Nat.le_refl _), Bool.true_and, Nat.sub_self, e]
    rcases Nat.mod_two_eq_zero_or_one (n / 2 ^ k) with z | z <;> rw [z] <;> rfl
  · rw [decide_eq_false (by omega), Bool.and_false, decide_eq_false (by omega), Bool.false_and]
theorem l_od {u e : Nat} (h1 : 1022 ≤ e) (h2 : e ≤ 1074) : lN (fP u) &&& ((2 : Int64) * lN (2 ^ (1074 - e))) = lN (fP u / 2 ^ (1075 - e) % 2 * 2 ^ (1075 - e)) := by
  have fl := fP_lt u
  have p : 2 ^ (1075 - e) < 2 ^ 54 := Nat.pow_lt_pow_right (by decide) (by omega)
  rw [l_tw, show 1074 - e + 1 = 1075 - e by omega, wb_and (by omega) (by omega), and_one2]
theorem dX4_isHalfway_0 : decode cX4_isHalfway 0 = .ok (.lload_n 0, 1) := by decide +kernel
theorem dX4_isHalfway_1 : decode cX4_isHalfway 1 = .ok (.invokestatic 42, 3) := by decide +kernel
theorem dX4_isHalfway_4 : decode cX4_isHalfway 4 = .ok (.ifCond .ne 5, 3) := by decide +kernel
theorem dX4_isHalfway_7 : decode cX4_isHalfway 7 = .ok (.iconst 0, 1) := by decide +kernel
theorem dX4_isHalfway_8 : decode cX4_isHalfway 8 = .ok (.ireturn, 1) := by decide +kernel
theorem dX4_isHalfway_9 : decode cX4_isHalfway 9 = .ok (.lconst 1, 1) := by decide +kernel
theorem dX4_isHalfway_10 : decode cX4_isHalfway 10 = .ok (.sipush 1074, 3) := by decide +kernel
theorem dX4_isHalfway_13 : decode cX4_isHalfway 13 = .ok (.lload_n 0, 1) := by decide +kernel
theorem dX4_isHalfway_14 : decode cX4_isHalfway 14 = .ok (.invokestatic 29, 3) := by decide +kernel
theorem dX4_isHalfway_17 : decode cX4_isHalfway 17 = .ok (.isub, 1) := by decide +kernel
theorem dX4_isHalfway_18 : decode cX4_isHalfway 18 = .ok (.lshl, 1) := by decide +kernel
theorem dX4_isHalfway_19 : decode cX4_isHalfway 19 = .ok (.lstore_n 2, 1) := by decide +kernel
theorem dX4_isHalfway_20 : decode cX4_isHalfway 20 = .ok (.lload_n 0, 1) := by decide +kernel
theorem dX4_isHalfway_21 : decode cX4_isHalfway 21 = .ok (.invokestatic 46, 3) := by decide +kernel
theorem dX4_isHalfway_24 : decode cX4_isHalfway 24 = .ok (.ldc2_w 49, 3) := by decide +kernel
theorem dX4_isHalfway_27 : decode cX4_isHalfway 27 = .ok (.lload_n 2, 1) := by decide +kernel
theorem dX4_isHalfway_28 : decode cX4_isHalfway 28 = .ok (.lmul, 1) := by decide +kernel
theorem dX4_isHalfway_29 : decode cX4_isHalfway 29 = .ok (.lconst 1, 1) := by decide +kernel
theorem dX4_isHalfway_30 : decode cX4_isHalfway 30 = .ok (.lsub, 1) := by decide +kernel
theorem dX4_isHalfway_31 : decode cX4_isHalfway 31 = .ok (.land, 1) := by decide +kernel
theorem dX4_isHalfway_32 : decode cX4_isHalfway 32 = .ok (.lload_n 2, 1) := by decide +kernel
theorem dX4_isHalfway_33 : decode cX4_isHalfway 33 = .ok (.lcmp, 1) := by decide +kernel
theorem dX4_isHalfway_34 : decode cX4_isHalfway 34 = .ok (.ifCond .ne 7, 3) := by decide +kernel
theorem dX4_isHalfway_37 : decode cX4_isHalfway 37 = .ok (.iconst 1, 1) := by decide +kernel
theorem dX4_isHalfway_38 : decode cX4_isHalfway 38 = .ok (.goto 4, 3) := by decide +kernel
theorem dX4_isHalfway_41 : decode cX4_isHalfway 41 = .ok (.iconst 0, 1) := by decide +kernel
theorem dX4_isHalfway_42 : decode cX4_isHalfway 42 = .ok (.ireturn, 1) := by decide +kernel
abbrev r_X4_isHalfway : Room := { frames := 2, cells := 0, slots := 0, locals := 42 }
abbrev m_X4_isHalfway : xMd := (cX4_isHalfway, RX4, 4, (some FieldType.boolean), false, r_X4_isHalfway)
def b_X4_isHalfway_42 (Q : xQ) : xK := x_zret FieldType.boolean Q
def b_X4_isHalfway_0 (Q : xQ) : xK := x_lload 0 <| x_call C_X4_mayHaveHalf 1 0 0 <| x_if_ne (x_c (.long 1) <| x_c (.int 1074) <| x_lload 0 <| x_call C_X4_scale 1 0 0 <| x_isub <| x_lshl <| x_lstore 2 <| x_lload 0 <| x_call C_X4_significand 1 0 0 <| x_c (.long 2) <| x_lload 2 <| x_lmul <| x_c (.long 1) <| x_lsub <| x_land <| x_lload 2 <| x_lcmp <| x_if_ne (x_c (.int 0) <| (b_X4_isHalfway_42 Q)) <| x_c (.int 1) <| (b_X4_isHalfway_42 Q)) <| x_c (.int 0) <| x_zret FieldType.boolean Q
theorem s_X4_isHalfway_42 (G : xG) (l : Launch) (Q : xQ) : xW G l m_X4_isHalfway xX0 (xPm G Q r_X4_isHalfway) 42 (b_X4_isHalfway_42 Q) := xo_zret (pc := 42) rfl dX4_isHalfway_42
theorem s_X4_isHalfway_0 (G : xG) (l : Launch) (Q : xQ) : xW G l m_X4_isHalfway xX0 (xPm G Q r_X4_isHalfway) 0 (b_X4_isHalfway_0 Q) := xo_lload_n (pc := 0) (i := 0) dX4_isHalfway_0 rfl <| xo_callS (pc := 1) (np := 1) (cM_X4_mayHaveHalf G l) dX4_isHalfway_1 kw901 kw899 kw900 kw25 (by decide +kernel) (by decide) <| xo_if_ne (pc := 4) (tgt := 9) dX4_isHalfway_4 (by decide) (xo_lconst (pc := 9) dX4_isHalfway_9 (by decide) <| xo_sipush (pc := 10) dX4_isHalfway_10 (by decide) <| xo_lload_n (pc := 13) (i := 0) dX4_isHalfway_13 rfl <| xo_callS (pc := 14) (np := 1) (cM_X4_scale G l) dX4_isHalfway_14 kw894 kw892 kw893 kw25 (by decide +kernel) (by decide) <| xo_isub (pc := 17) dX4_isHalfway_17 <| xo_lshl (pc := 18) dX4_isHalfway_18 <| xo_lstore_n (pc := 19) (i := 2) dX4_isHalfway_19 rfl (by decide) <| xo_lload_n (pc := 20) (i := 0) dX4_isHalfway_20 rfl <| xo_callS (pc := 21) (np := 1) (cM_X4_significand G l) dX4_isHalfway_21 kw487 kw902 kw486 kw25 (by decide +kernel) (by decide) <| xo_ldc2_w (pc := 24) dX4_isHalfway_24 kw903 <| xo_lload_n (pc := 27) (i := 2) dX4_isHalfway_27 rfl <| xo_lmul (pc := 28) dX4_isHalfway_28 <| xo_lconst (pc := 29) dX4_isHalfway_29 (by decide) <| xo_lsub (pc := 30) dX4_isHalfway_30 <| xo_land (pc := 31) dX4_isHalfway_31 <| xo_lload_n (pc := 32) (i := 2) dX4_isHalfway_32 rfl <| xo_lcmp (pc := 33) dX4_isHalfway_33 <| xo_if_ne (pc := 34) (tgt := 41) dX4_isHalfway_34 (by decide) (xo_iconst (pc := 41) dX4_isHalfway_41 (by decide) <| (s_X4_isHalfway_42 G l Q)) <| xo_iconst (pc := 37) dX4_isHalfway_37 (by decide) <| xo_goto (pc := 38) (tgt := 42) dX4_isHalfway_38 (by decide) <| (s_X4_isHalfway_42 G l Q)) <| xo_iconst (pc := 7) dX4_isHalfway_7 (by decide) <| xo_zret (pc := 8) rfl dX4_isHalfway_8

def hwB (u : Nat) : Bool := mhB u && decide (fP u % 2 ^ (1075 - u / 2 ^ 52) = 2 ^ (1074 - u / 2 ^ 52))
def C_X4_isHalfway : xC := fun av S Q => ∃ u : Nat, av = [.long (lN u)] ∧ u < 2 ^ 63 ∧ Q (some (.int (bI (hwB u)))) S
theorem cM_X4_isHalfway (G : xG) (l : Launch) : xM G l yX4_isHalfway cX4_isHalfway 4 (some FieldType.boolean) r_X4_isHalfway C_X4_isHalfway := by
  refine xM_of (fun Q => b_X4_isHalfway_0 Q) RX4 false (s_X4_isHalfway_0 G l) (by decide) rfl (by decide) ?_
  rintro av S Q ⟨u, rfl, hu, hQ⟩
  refine ⟨Nat.le_of_ble_eq_true rfl, ?_⟩
  have fl := fP_lt u
  have fin : ∀ t, t = hwB u → Q (some (.int (bI t))) S := fun t ht => by rw [ht]; exact hQ
  simp only [q_c, x_iload, x_lload, x_aload, q_istore, q_lstore, q_astore, q_astore2, x_iinc, q_iadd, q_isub, q_imul, q_iand, q_ior, q_ixor, q_ladd, q_lsub, q_lmul, q_land, q_lor, q_lxor, q_idiv, q_irem, q_ldiv, q_lrem, q_ineg, q_lneg, q_ishl, q_ishr, q_iushr, q_lshl, q_lshr, q_lushr, q_i2l, q_l2i, q_i2b, q_i2c, q_lcmp, q_if_eq, q_if_ne, q_if_lt, q_if_ge, q_if_gt, q_if_le, q_icmp_eq, q_icmp_ne, q_icmp_lt, q_icmp_ge, q_icmp_gt, q_icmp_le, q_dup, q_pop, q_dup_x1, q_dup2, x_iret, x_zret, x_lret, x_aret, x_vret, x_call, x_callv, x_calli, x_oinit, x_mmax, x_mmin, x_mabs, x_mmaxL, x_mminL, x_mabsL, lg_cmp_ge, lg_cmp_le, lg_cmp_gt, lg_cmp_lt, lg_cmp_eq, xlk, q_xs1, q_xs2, lv_args, Value.category, List.filter_cons, List.filter_nil, Nat.reduceAdd, Nat.reduceBEq, Nat.reduceEqDiff, Nat.reduceSub, Nat.sub_zero, beq_self_eq_true, Bool.not_true, Bool.not_false, Bool.and_true, Bool.and_false, Bool.true_and, Bool.false_and, reduceIte, reduceCtorEq, Bool.false_eq_true, Nat.one_ne_zero, Nat.zero_ne_one, Nat.zero_add, Option.toList_some, Option.toList_none, List.nil_append, List.cons_append, List.take_succ_cons, List.take_zero, List.take_nil, List.drop_succ_cons, List.drop_zero, List.length_cons, List.length_nil, List.reverse_cons, List.reverse_nil, List.head?_cons, List.map_cons, List.map_nil, List.sum_cons, List.sum_nil, true_and, and_true, List.getElem?_cons_zero, List.getElem?_cons_succ, Prod.eta, x_iast, x_bald, x_bast, x_last, x_alen, xup_s, xup_a1, xup_1a, xup_uu, nr_i, nr_l, nr_o, nr_a, ft_i, ft_l, ft_o, ft_a, Nat.reduceLT, i_cl0, i_cl1, i_n1, i_m1, List.set_cons_zero, List.set_cons_succ, Nat.reduceLeDiff, Nat.le_refl, Nat.zero_le, Nat.add_zero, x_no, x_ifnull, x_ifnonnull, x_acmp_eq, x_acmp_ne, x_swl, x_tsw, x_castC, true_or, or_true, nr_z, ft_z, nr_z0, nr_z1, ft_z0, ft_z1, nr_on, nr_an, ft_on, ft_an, b_X4_isHalfway_0, b_X4_isHalfway_42]
  refine ⟨u, rfl, hu, ?_⟩
  simp only [q_c, x_iload, x_lload, x_aload, q_istore, q_lstore, q_astore, q_astore2, x_iinc, q_iadd, q_isub, q_imul, q_iand, q_ior, q_ixor, q_ladd, q_lsub, q_lmul, q_land, q_lor, q_lxor, q_idiv, q_irem, q_ldiv, q_lrem, q_ineg, q_lneg, q_ishl, q_ishr, q_iushr, q_lshl, q_lshr, q_lushr, q_i2l, q_l2i, q_i2b, q_i2c, q_lcmp, q_if_eq, q_if_ne, q_if_lt, q_if_ge, q_if_gt, q_if_le, q_icmp_eq, q_icmp_ne, q_icmp_lt, q_icmp_ge, q_icmp_gt, q_icmp_le, q_dup, q_pop, q_dup_x1, q_dup2, x_iret, x_zret, x_lret, x_aret, x_vret, x_call, x_callv, x_calli, x_oinit, x_mmax, x_mmin, x_mabs, x_mmaxL, x_mminL, x_mabsL, lg_cmp_ge, lg_cmp_le, lg_cmp_gt, lg_cmp_lt, lg_cmp_eq, xlk, q_xs1, q_xs2, lv_args, Value.category, List.filter_cons, List.filter_nil, Nat.reduceAdd, Nat.reduceBEq, Nat.reduceEqDiff, Nat.reduceSub, Nat.sub_zero, beq_self_eq_true, Bool.not_true, Bool.not_false, Bool.and_true, Bool.and_false, Bool.true_and, Bool.false_and, reduceIte, reduceCtorEq, Bool.false_eq_true, Nat.one_ne_zero, Nat.zero_ne_one, Nat.zero_add, Option.toList_some, Option.toList_none, List.nil_append, List.cons_append, List.take_succ_cons, List.take_zero, List.take_nil, List.drop_succ_cons, List.drop_zero, List.length_cons, List.length_nil, List.reverse_cons, List.reverse_nil, List.head?_cons, List.map_cons, List.map_nil, List.sum_cons, List.sum_nil, true_and, and_true, List.getElem?_cons_zero, List.getElem?_cons_succ, Prod.eta, x_iast, x_bald, x_bast, x_last, x_alen, xup_s, xup_a1, xup_1a, xup_uu, nr_i, nr_l, nr_o, nr_a, ft_i, ft_l, ft_o, ft_a, Nat.reduceLT, i_cl0, i_cl1, i_n1, i_m1, List.set_cons_zero, List.set_cons_succ, Nat.reduceLeDiff, Nat.le_refl, Nat.zero_le, Nat.add_zero, x_no, x_ifnull, x_ifnonnull, x_acmp_eq, x_acmp_ne, x_swl, x_tsw, x_castC, true_or, or_true, nr_z, ft_z, nr_z0, nr_z1, ft_z0, ft_z1, nr_on, nr_an, ft_on, ft_an, bI_e0]
  refine ⟨fun a => ⟨u, rfl, hu, ?_⟩, fun a => fin false ?_⟩
  · have m := eq_true_of_ne_false a
    have m2 := m
    unfold mhB at m
    have m1 := of_decide_eq_true m
    simp only [q_c, x_iload, x_lload, x_aload, q_istore, q_lstore, q_astore, q_astore2, x_iinc, q_iadd, q_isub, q_imul, q_iand, q_ior, q_ixor, q_ladd, q_lsub, q_lmul, q_land, q_lor, q_lxor, q_idiv, q_irem, q_ldiv, q_lrem, q_ineg, q_lneg, q_ishl, q_ishr, q_iushr, q_lshl, q_lshr, q_lushr, q_i2l, q_l2i, q_i2b, q_i2c, q_lcmp, q_if_eq, q_if_ne, q_if_lt, q_if_ge, q_if_gt, q_if_le, q_icmp_eq, q_icmp_ne, q_icmp_lt, q_icmp_ge, q_icmp_gt, q_icmp_le, q_dup, q_pop, q_dup_x1, q_dup2, x_iret, x_zret, x_lret, x_aret, x_vret, x_call, x_callv, x_calli, x_oinit, x_mmax, x_mmin, x_mabs, x_mmaxL, x_mminL, x_mabsL, lg_cmp_ge, lg_cmp_le, lg_cmp_gt, lg_cmp_lt, lg_cmp_eq, xlk, q_xs1, q_xs2, lv_args, Value.category, List.filter_cons, List.filter_nil, Nat.reduceAdd, Nat.reduceBEq, Nat.reduceEqDiff, Nat.reduceSub, Nat.sub_zero, beq_self_eq_true, Bool.not_true, Bool.not_false, Bool.and_true, Bool.and_false, Bool.true_and, Bool.false_and, reduceIte, reduceCtorEq, Bool.false_eq_true, Nat.one_ne_zero, Nat.zero_ne_one, Nat.zero_add, Option.toList_some, Option.toList_none, List.nil_append, List.cons_append, List.take_succ_cons, List.take_zero, List.take_nil, List.drop_succ_cons, List.drop_zero, List.length_cons, List.length_nil, List.reverse_cons, List.reverse_nil, List.head?_cons, List.map_cons, List.map_nil, List.sum_cons, List.sum_nil, true_and, and_true, List.getElem?_cons_zero, List.getElem?_cons_succ, Prod.eta, x_iast, x_bald, x_bast, x_last, x_alen, xup_s, xup_a1, xup_1a, xup_uu, nr_i, nr_l, nr_o, nr_a, ft_i, ft_l, ft_o, ft_a, Nat.reduceLT, i_cl0, i_cl1, i_n1, i_m1, List.set_cons_zero, List.set_cons_succ, Nat.reduceLeDiff, Nat.le_refl, Nat.zero_le, Nat.add_zero, x_no, x_ifnull, x_ifnonnull, x_acmp_eq, x_acmp_ne, x_swl, x_tsw, x_castC, true_or, or_true, nr_z, ft_z, nr_z0, nr_z1, ft_z0, ft_z1, nr_on, nr_an, ft_on, ft_an, l_hf m1.1 m1.2]
    refine ⟨u, rfl, hu, ?_⟩
    have p : 2 ^ (1074 - u / 2 ^ 52) < 2 ^ 54 := Nat.pow_lt_pow_right (by decide) (by omega)
    have z0 : lN (fP u % 2 ^ (1075 - u / 2 ^ 52)) = lN (2 ^ (1074 - u / 2 ^ 52)) ↔ fP u % 2 ^ (1075 - u / 2 ^ 52) = 2 ^ (1074 - u / 2 ^ 52) := pk_lEQ (Nat.lt_of_le_of_lt (Nat.mod_le _ _) (by omega)) (by omega)
    simp only [q_c, x_iload, x_lload, x_aload, q_istore, q_lstore, q_astore, q_astore2, x_iinc, q_iadd, q_isub, q_imul, q_iand, q_ior, q_ixor, q_ladd, q_lsub, q_lmul, q_land, q_lor, q_lxor, q_idiv, q_irem, q_ldiv, q_lrem, q_ineg, q_lneg, q_ishl, q_ishr, q_iushr, q_lshl, q_lshr, q_lushr, q_i2l, q_l2i, q_i2b, q_i2c, q_lcmp, q_if_eq, q_if_ne, q_if_lt, q_if_ge, q_if_gt, q_if_le, q_icmp_eq, q_icmp_ne, q_icmp_lt, q_icmp_ge, q_icmp_gt, q_icmp_le, q_dup, q_pop, q_dup_x1, q_dup2, x_iret, x_zret, x_lret, x_aret, x_vret, x_call, x_callv, x_calli, x_oinit, x_mmax, x_mmin, x_mabs, x_mmaxL, x_mminL, x_mabsL, lg_cmp_ge, lg_cmp_le, lg_cmp_gt, lg_cmp_lt, lg_cmp_eq, xlk, q_xs1, q_xs2, lv_args, Value.category, List.filter_cons, List.filter_nil, Nat.reduceAdd, Nat.reduceBEq, Nat.reduceEqDiff, Nat.reduceSub, Nat.sub_zero, beq_self_eq_true, Bool.not_true, Bool.not_false, Bool.and_true, Bool.and_false, Bool.true_and, Bool.false_and, reduceIte, reduceCtorEq, Bool.false_eq_true, Nat.one_ne_zero, Nat.zero_ne_one, Nat.zero_add, Option.toList_some, Option.toList_none, List.nil_append, List.cons_append, List.take_succ_cons, List.take_zero, List.take_nil, List.drop_succ_cons, List.drop_zero, List.length_cons, List.length_nil, List.reverse_cons, List.reverse_nil, List.head?_cons, List.map_cons, List.map_nil, List.sum_cons, List.sum_nil, true_and, and_true, List.getElem?_cons_zero, List.getElem?_cons_succ, Prod.eta, x_iast, x_bald, x_bast, x_last, x_alen, xup_s, xup_a1, xup_1a, xup_uu, nr_i, nr_l, nr_o, nr_a, ft_i, ft_l, ft_o, ft_a, Nat.reduceLT, i_cl0, i_cl1, i_n1, i_m1, List.set_cons_zero, List.set_cons_succ, Nat.reduceLeDiff, Nat.le_refl, Nat.zero_le, Nat.add_zero, x_no, x_ifnull, x_ifnonnull, x_acmp_eq, x_acmp_ne, x_swl, x_tsw, x_castC, true_or, or_true, nr_z, ft_z, nr_z0, nr_z1, ft_z0, ft_z1, nr_on, nr_an, ft_on, ft_an, l_bh m1.1 m1.2, z0]
    refine ⟨fun b => fin false ?_, fun b => fin true ?_⟩
    · unfold hwB
      rw [decide_eq_false b, Bool.and_false]
    · unfold hwB
      rw [decide_eq_true b, m2]
      rfl
  · unfold hwB
    rw [a]
    rfl
theorem dX4_evened_0 : decode cX4_evened 0 = .ok (.lload_n 0, 1) := by decide +kernel
theorem dX4_evened_1 : decode cX4_evened 1 = .ok (.invokestatic 42, 3) := by decide +kernel
theorem dX4_evened_4 : decode cX4_evened 4 = .ok (.ifCond .ne 8, 3) := by decide +kernel
theorem dX4_evened_7 : decode cX4_evened 7 = .ok (.lload_n 0, 1) := by decide +kernel
theorem dX4_evened_8 : decode cX4_evened 8 = .ok (.invokestatic 23, 3) := by decide +kernel
theorem dX4_evened_11 : decode cX4_evened 11 = .ok (.lreturn, 1) := by decide +kernel
theorem dX4_evened_12 : decode cX4_evened 12 = .ok (.lconst 1, 1) := by decide +kernel
theorem dX4_evened_13 : decode cX4_evened 13 = .ok (.sipush 1074, 3) := by decide +kernel
theorem dX4_evened_16 : decode cX4_evened 16 = .ok (.lload_n 0, 1) := by decide +kernel
theorem dX4_evened_17 : decode cX4_evened 17 = .ok (.invokestatic 29, 3) := by decide +kernel
theorem dX4_evened_20 : decode cX4_evened 20 = .ok (.isub, 1) := by decide +kernel
theorem dX4_evened_21 : decode cX4_evened 21 = .ok (.lshl, 1) := by decide +kernel
theorem dX4_evened_22 : decode cX4_evened 22 = .ok (.lstore_n 2, 1) := by decide +kernel
theorem dX4_evened_23 : decode cX4_evened 23 = .ok (.lload_n 0, 1) := by decide +kernel
theorem dX4_evened_24 : decode cX4_evened 24 = .ok (.invokestatic 46, 3) := by decide +kernel
theorem dX4_evened_27 : decode cX4_evened 27 = .ok (.ldc2_w 49, 3) := by decide +kernel
theorem dX4_evened_30 : decode cX4_evened 30 = .ok (.lload_n 2, 1) := by decide +kernel
theorem dX4_evened_31 : decode cX4_evened 31 = .ok (.lmul, 1) := by decide +kernel
theorem dX4_evened_32 : decode cX4_evened 32 = .ok (.lconst 1, 1) := by decide +kernel
theorem dX4_evened_33 : decode cX4_evened 33 = .ok (.lsub, 1) := by decide +kernel
theorem dX4_evened_34 : decode cX4_evened 34 = .ok (.land, 1) := by decide +kernel
theorem dX4_evened_35 : decode cX4_evened 35 = .ok (.lstore 4, 2) := by decide +kernel
theorem dX4_evened_37 : decode cX4_evened 37 = .ok (.lload_n 0, 1) := by decide +kernel
theorem dX4_evened_38 : decode cX4_evened 38 = .ok (.invokestatic 46, 3) := by decide +kernel
theorem dX4_evened_41 : decode cX4_evened 41 = .ok (.ldc2_w 49, 3) := by decide +kernel
theorem dX4_evened_44 : decode cX4_evened 44 = .ok (.lload_n 2, 1) := by decide +kernel
theorem dX4_evened_45 : decode cX4_evened 45 = .ok (.lmul, 1) := by decide +kernel
theorem dX4_evened_46 : decode cX4_evened 46 = .ok (.land, 1) := by decide +kernel
theorem dX4_evened_47 : decode cX4_evened 47 = .ok (.lconst 0, 1) := by decide +kernel
theorem dX4_evened_48 : decode cX4_evened 48 = .ok (.lcmp, 1) := by decide +kernel
theorem dX4_evened_49 : decode cX4_evened 49 = .ok (.ifCond .eq 7, 3) := by decide +kernel
theorem dX4_evened_52 : decode cX4_evened 52 = .ok (.iconst 1, 1) := by decide +kernel
theorem dX4_evened_53 : decode cX4_evened 53 = .ok (.goto 4, 3) := by decide +kernel
theorem dX4_evened_56 : decode cX4_evened 56 = .ok (.iconst 0, 1) := by decide +kernel
theorem dX4_evened_57 : decode cX4_evened 57 = .ok (.istore 6, 2) := by decide +kernel
theorem dX4_evened_59 : decode cX4_evened 59 = .ok (.lload 4, 2) := by decide +kernel
theorem dX4_evened_61 : decode cX4_evened 61 = .ok (.lload_n 2, 1) := by decide +kernel
theorem dX4_evened_62 : decode cX4_evened 62 = .ok (.lcmp, 1) := by decide +kernel
theorem dX4_evened_63 : decode cX4_evened 63 = .ok (.ifCond .gt 15, 3) := by decide +kernel
theorem dX4_evened_66 : decode cX4_evened 66 = .ok (.lload 4, 2) := by decide +kernel
theorem dX4_evened_68 : decode cX4_evened 68 = .ok (.lload_n 2, 1) := by decide +kernel
theorem dX4_evened_69 : decode cX4_evened 69 = .ok (.lcmp, 1) := by decide +kernel
theorem dX4_evened_70 : decode cX4_evened 70 = .ok (.ifCond .ne 15, 3) := by decide +kernel
theorem dX4_evened_73 : decode cX4_evened 73 = .ok (.iload 6, 2) := by decide +kernel
theorem dX4_evened_75 : decode cX4_evened 75 = .ok (.ifCond .eq 10, 3) := by decide +kernel
theorem dX4_evened_78 : decode cX4_evened 78 = .ok (.lload_n 0, 1) := by decide +kernel
theorem dX4_evened_79 : decode cX4_evened 79 = .ok (.invokestatic 39, 3) := by decide +kernel
theorem dX4_evened_82 : decode cX4_evened 82 = .ok (.goto 7, 3) := by decide +kernel
theorem dX4_evened_85 : decode cX4_evened 85 = .ok (.lload_n 0, 1) := by decide +kernel
theorem dX4_evened_86 : decode cX4_evened 86 = .ok (.invokestatic 23, 3) := by decide +kernel
theorem dX4_evened_89 : decode cX4_evened 89 = .ok (.lreturn, 1) := by decide +kernel
abbrev r_X4_evened : Room := { frames := 2, cells := 0, slots := 0, locals := 45 }
abbrev m_X4_evened : xMd := (cX4_evened, RX4, 7, (some FieldType.long), false, r_X4_evened)
def b_X4_evened_89 (Q : xQ) : xK := x_lret Q
def b_X4_evened_78 (Q : xQ) : xK := x_lload 0 <| x_call C_X4_nextWhole 1 0 0 <| (b_X4_evened_89 Q)
def b_X4_evened_85 (Q : xQ) : xK := x_lload 0 <| x_call C_X4_cut 1 0 0 <| (b_X4_evened_89 Q)
def b_X4_evened_57 (Q : xQ) : xK := x_istore 6 <| x_lload 4 <| x_lload 2 <| x_lcmp <| x_if_gt ((b_X4_evened_78 Q)) <| x_lload 4 <| x_lload 2 <| x_lcmp <| x_if_ne ((b_X4_evened_85 Q)) <| x_iload 6 <| x_if_eq ((b_X4_evened_85 Q)) <| (b_X4_evened_78 Q)
def b_X4_evened_0 (Q : xQ) : xK := x_lload 0 <| x_call C_X4_mayHaveHalf 1 0 0 <| x_if_ne (x_c (.long 1) <| x_c (.int 1074) <| x_lload 0 <| x_call C_X4_scale 1 0 0 <| x_isub <| x_lshl <| x_lstore 2 <| x_lload 0 <| x_call C_X4_significand 1 0 0 <| x_c (.long 2) <| x_lload 2 <| x_lmul <| x_c (.long 1) <| x_lsub <| x_land <| x_lstore 4 <| x_lload 0 <| x_call C_X4_significand 1 0 0 <| x_c (.long 2) <| x_lload 2 <| x_lmul <| x_land <| x_c (.long 0) <| x_lcmp <| x_if_eq (x_c (.int 0) <| (b_X4_evened_57 Q)) <| x_c (.int 1) <| (b_X4_evened_57 Q)) <| x_lload 0 <| x_call C_X4_cut 1 0 0 <| x_lret Q
theorem s_X4_evened_89 (G : xG) (l : Launch) (Q : xQ) : xW G l m_X4_evened xX0 (xPm G Q r_X4_evened) 89 (b_X4_evened_89 Q) := xo_lret (pc := 89) rfl dX4_evened_89
theorem s_X4_evened_78 (G : xG) (l : Launch) (Q : xQ) : xW G l m_X4_evened xX0 (xPm G Q r_X4_evened) 78 (b_X4_evened_78 Q) := xo_lload_n (pc := 78) (i := 0) dX4_evened_78 rfl <| xo_callS (pc := 79) (np := 1) (cM_X4_nextWhole G l) dX4_evened_79 kw891 kw889 kw890 kw25 (by decide +kernel) (by decide) <| xo_goto (pc := 82) (tgt := 89) dX4_evened_82 (by decide) <| (s_X4_evened_89 G l Q)
theorem s_X4_evened_85 (G : xG) (l : Launch) (Q : xQ) : xW G l m_X4_evened xX0 (xPm G Q r_X4_evened) 85 (b_X4_evened_85 Q) := xo_lload_n (pc := 85) (i := 0) dX4_evened_85 rfl <| xo_callS (pc := 86) (np := 1) (cM_X4_cut G l) dX4_evened_86 kw888 kw886 kw887 kw25 (by decide +kernel) (by decide) <| (s_X4_evened_89 G l Q)
theorem s_X4_evened_57 (G : xG) (l : Launch) (Q : xQ) : xW G l m_X4_evened xX0 (xPm G Q r_X4_evened) 57 (b_X4_evened_57 Q) := xo_istore (pc := 57) (i := 6) dX4_evened_57 (by decide) <| xo_lload (pc := 59) (i := 4) dX4_evened_59 <| xo_lload_n (pc := 61) (i := 2) dX4_evened_61 rfl <| xo_lcmp (pc := 62) dX4_evened_62 <| xo_if_gt (pc := 63) (tgt := 78) dX4_evened_63 (by decide) ((s_X4_evened_78 G l Q)) <| xo_lload (pc := 66) (i := 4) dX4_evened_66 <| xo_lload_n (pc := 68) (i := 2) dX4_evened_68 rfl <| xo_lcmp (pc := 69) dX4_evened_69 <| xo_if_ne (pc := 70) (tgt := 85) dX4_evened_70 (by decide) ((s_X4_evened_85 G l Q)) <| xo_iload (pc := 73) (i := 6) dX4_evened_73 <| xo_if_eq (pc := 75) (tgt := 85) dX4_evened_75 (by decide) ((s_X4_evened_85 G l Q)) <| (s_X4_evened_78 G l Q)
theorem s_X4_evened_0 (G : xG) (l : Launch) (Q : xQ) : xW G l m_X4_evened xX0 (xPm G Q r_X4_evened) 0 (b_X4_evened_0 Q) := xo_lload_n (pc := 0) (i := 0) dX4_evened_0 rfl <| xo_callS (pc := 1) (np := 1) (cM_X4_mayHaveHalf G l) dX4_evened_1 kw901 kw899 kw900 kw25 (by decide +kernel) (by decide) <| xo_if_ne (pc := 4) (tgt := 12) dX4_evened_4 (by decide) (xo_lconst (pc := 12) dX4_evened_12 (by decide) <| xo_sipush (pc := 13) dX4_evened_13 (by decide) <| xo_lload_n (pc := 16) (i := 0) dX4_evened_16 rfl <| xo_callS (pc := 17) (np := 1) (cM_X4_scale G l) dX4_evened_17 kw894 kw892 kw893 kw25 (by decide +kernel) (by decide) <| xo_isub (pc := 20) dX4_evened_20 <| xo_lshl (pc := 21) dX4_evened_21 <| xo_lstore_n (pc := 22) (i := 2) dX4_evened_22 rfl (by decide) <| xo_lload_n (pc := 23) (i := 0) dX4_evened_23 rfl <| xo_callS (pc := 24) (np := 1) (cM_X4_significand G l) dX4_evened_24 kw487 kw902 kw486 kw25 (by decide +kernel) (by decide) <| xo_ldc2_w (pc := 27) dX4_evened_27 kw903 <| xo_lload_n (pc := 30) (i := 2) dX4_evened_30 rfl <| xo_lmul (pc := 31) dX4_evened_31 <| xo_lconst (pc := 32) dX4_evened_32 (by decide) <| xo_lsub (pc := 33) dX4_evened_33 <| xo_land (pc := 34) dX4_evened_34 <| xo_lstore (pc := 35) (i := 4) dX4_evened_35 (by decide) <| xo_lload_n (pc := 37) (i := 0) dX4_evened_37 rfl <| xo_callS (pc := 38) (np := 1) (cM_X4_significand G l) dX4_evened_38 kw487 kw902 kw486 kw25 (by decide +kernel) (by decide) <| xo_ldc2_w (pc := 41) dX4_evened_41 kw903 <| xo_lload_n (pc := 44) (i := 2) dX4_evened_44 rfl <| xo_lmul (pc := 45) dX4_evened_45 <| xo_land (pc := 46) dX4_evened_46 <| xo_lconst (pc := 47) dX4_evened_47 (by decide) <| xo_lcmp (pc := 48) dX4_evened_48 <| xo_if_eq (pc := 49) (tgt := 56) dX4_evened_49 (by decide) (xo_iconst (pc := 56) dX4_evened_56 (by decide) <| (s_X4_evened_57 G l Q)) <| xo_iconst (pc := 52) dX4_evened_52 (by decide) <| xo_goto (pc := 53) (tgt := 57) dX4_evened_53 (by decide) <| (s_X4_evened_57 G l Q)) <| xo_lload_n (pc := 7) (i := 0) dX4_evened_7 rfl <| xo_callS (pc := 8) (np := 1) (cM_X4_cut G l) dX4_evened_8 kw888 kw886 kw887 kw25 (by decide +kernel) (by decide) <| xo_lret (pc := 11) rfl dX4_evened_11

def evB (u : Nat) : Bool := mhB u && decide (2 ^ (1074 - u / 2 ^ 52) < fP u % 2 ^ (1075 - u / 2 ^ 52) ∨ fP u % 2 ^ (1075 - u / 2 ^ 52) = 2 ^ (1074 - u / 2 ^ 52) ∧ fP u / 2 ^ (1075 - u / 2 ^ 52) % 2 = 1)
def evF (u : Nat) : Nat := if evB u = true then nxF u else ctF u
def C_X4_evened : xC := fun av S Q => ∃ u : Nat, av = [.long (lN u)] ∧ u < 2 ^ 63 ∧ Q (some (.long (lN (evF u)))) S
theorem cM_X4_evened (G : xG) (l : Launch) : xM G l yX4_evened cX4_evened 7 (some FieldType.long) r_X4_evened C_X4_evened := by
  refine xM_of (fun Q => b_X4_evened_0 Q) RX4 false (s_X4_evened_0 G l) (by decide) rfl (by decide) ?_
  rintro av S Q ⟨u, rfl, hu, hQ⟩
  refine ⟨Nat.le_of_ble_eq_true rfl, ?_⟩
  have fl := fP_lt u
  have fin : ∀ t, t = evF u → Q (some (.long (lN t))) S := fun t ht => by rw [ht]; exact hQ
  have g78 : evB u = true → ∀ lv, b_X4_evened_78 Q ((6, lv) :: [(4, .long (lN (fP u % 2 ^ (1075 - u / 2 ^ 52)))), (2, .long (lN (2 ^ (1074 - u / 2 ^ 52)))), (0, .long (lN u))]) [] S := by
    intro hb lv
    simp only [q_c, x_iload, x_lload, x_aload, q_istore, q_lstore, q_astore, q_astore2, x_iinc, q_iadd, q_isub, q_imul, q_iand, q_ior, q_ixor, q_ladd, q_lsub, q_lmul, q_land, q_lor, q_lxor, q_idiv, q_irem, q_ldiv, q_lrem, q_ineg, q_lneg, q_ishl, q_ishr, q_iushr, q_lshl, q_lshr, q_lushr, q_i2l, q_l2i, q_i2b, q_i2c, q_lcmp, q_if_eq, q_if_ne, q_if_lt, q_if_ge, q_if_gt, q_if_le, q_icmp_eq, q_icmp_ne, q_icmp_lt, q_icmp_ge, q_icmp_gt, q_icmp_le, q_dup, q_pop, q_dup_x1, q_dup2, x_iret, x_zret, x_lret, x_aret, x_vret, x_call, x_callv, x_calli, x_oinit, x_mmax, x_mmin, x_mabs, x_mmaxL, x_mminL, x_mabsL, lg_cmp_ge, lg_cmp_le, lg_cmp_gt, lg_cmp_lt, lg_cmp_eq, xlk, q_xs1, q_xs2, lv_args, Value.category, List.filter_cons, List.filter_nil, Nat.reduceAdd, Nat.reduceBEq, Nat.reduceEqDiff, Nat.reduceSub, Nat.sub_zero, beq_self_eq_true, Bool.not_true, Bool.not_false, Bool.and_true, Bool.and_false, Bool.true_and, Bool.false_and, reduceIte, reduceCtorEq, Bool.false_eq_true, Nat.one_ne_zero, Nat.zero_ne_one, Nat.zero_add, Option.toList_some, Option.toList_none, List.nil_append, List.cons_append, List.take_succ_cons, List.take_zero, List.take_nil, List.drop_succ_cons, List.drop_zero, List.length_cons, List.length_nil, List.reverse_cons, List.reverse_nil, List.head?_cons, List.map_cons, List.map_nil, List.sum_cons, List.sum_nil, true_and, and_true, List.getElem?_cons_zero, List.getElem?_cons_succ, Prod.eta, x_iast, x_bald, x_bast, x_last, x_alen, xup_s, xup_a1, xup_1a, xup_uu, nr_i, nr_l, nr_o, nr_a, ft_i, ft_l, ft_o, ft_a, Nat.reduceLT, i_cl0, i_cl1, i_n1, i_m1, List.set_cons_zero, List.set_cons_succ, Nat.reduceLeDiff, Nat.le_refl, Nat.zero_le, Nat.add_zero, x_no, x_ifnull, x_ifnonnull, x_acmp_eq, x_acmp_ne, x_swl, x_tsw, x_castC, true_or, or_true, nr_z, ft_z, nr_z0, nr_z1, ft_z0, ft_z1, nr_on, nr_an, ft_on, ft_an, b_X4_evened_78, b_X4_evened_89]
    refine ⟨u, rfl, hu, ?_⟩
    try simp only [q_c, x_iload, x_lload, x_aload, q_istore, q_lstore, q_astore, q_astore2, x_iinc, q_iadd, q_isub, q_imul, q_iand, q_ior, q_ixor, q_ladd, q_lsub, q_lmul, q_land, q_lor, q_lxor, q_idiv, q_irem, q_ldiv, q_lrem, q_ineg, q_lneg, q_ishl, q_ishr, q_iushr, q_lshl, q_lshr, q_lushr, q_i2l, q_l2i, q_i2b, q_i2c, q_lcmp, q_if_eq, q_if_ne, q_if_lt, q_if_ge, q_if_gt, q_if_le, q_icmp_eq, q_icmp_ne, q_icmp_lt, q_icmp_ge, q_icmp_gt, q_icmp_le, q_dup, q_pop, q_dup_x1, q_dup2, x_iret, x_zret, x_lret, x_aret, x_vret, x_call, x_callv, x_calli, x_oinit, x_mmax, x_mmin, x_mabs, x_mmaxL, x_mminL, x_mabsL, lg_cmp_ge, lg_cmp_le, lg_cmp_gt, lg_cmp_lt, lg_cmp_eq, xlk, q_xs1, q_xs2, lv_args, Value.category, List.filter_cons, List.filter_nil, Nat.reduceAdd, Nat.reduceBEq, Nat.reduceEqDiff, Nat.reduceSub, Nat.sub_zero, beq_self_eq_true, Bool.not_true, Bool.not_false, Bool.and_true, Bool.and_false, Bool.true_and, Bool.false_and, reduceIte, reduceCtorEq, Bool.false_eq_true, Nat.one_ne_zero, Nat.zero_ne_one, Nat.zero_add, Option.toList_some, Option.toList_none, List.nil_append, List.cons_append, List.take_succ_cons, List.take_zero, List.take_nil, List.drop_succ_cons, List.drop_zero, List.length_cons, List.length_nil, List.reverse_cons, List.reverse_nil, List.head?_cons, List.map_cons, List.map_nil, List.sum_cons, List.sum_nil, true_and, and_true, List.getElem?_cons_zero, List.getElem?_cons_succ, Prod.eta, x_iast, x_bald, x_bast, x_last, x_alen, xup_s, xup_a1, xup_1a, xup_uu, nr_i, nr_l, nr_o, nr_a, ft_i, ft_l, ft_o, ft_a, Nat.reduceLT, i_cl0, i_cl1, i_n1, i_m1, List.set_cons_zero, List.set_cons_succ, Nat.reduceLeDiff, Nat.le_refl, Nat.zero_le, Nat.add_zero, x_no, x_ifnull, x_ifnonnull, x_acmp_eq, x_acmp_ne, x_swl, x_tsw, x_castC, true_or, or_true, nr_z, ft_z, nr_z0, nr_z1, ft_z0, ft_z1, nr_on, nr_an, ft_on, ft_an]
    exact fin _ (by unfold evF; rw [if_pos hb])
  have g85 : evB u = false → ∀ lv, b_X4_evened_85 Q ((6, lv) :: [(4, .long (lN (fP u % 2 ^ (1075 - u / 2 ^ 52)))), (2, .long (lN (2 ^ (1074 - u / 2 ^ 52)))), (0, .long (lN u))]) [] S := by
    intro hb lv
    simp only [q_c, x_iload, x_lload, x_aload, q_istore, q_lstore, q_astore, q_astore2, x_iinc, q_iadd, q_isub, q_imul, q_iand, q_ior, q_ixor, q_ladd, q_lsub, q_lmul, q_land, q_lor, q_lxor, q_idiv, q_irem, q_ldiv, q_lrem, q_ineg, q_lneg, q_ishl, q_ishr, q_iushr, q_lshl, q_lshr, q_lushr, q_i2l, q_l2i, q_i2b, q_i2c, q_lcmp, q_if_eq, q_if_ne, q_if_lt, q_if_ge, q_if_gt, q_if_le, q_icmp_eq, q_icmp_ne, q_icmp_lt, q_icmp_ge, q_icmp_gt, q_icmp_le, q_dup, q_pop, q_dup_x1, q_dup2, x_iret, x_zret, x_lret, x_aret, x_vret, x_call, x_callv, x_calli, x_oinit, x_mmax, x_mmin, x_mabs, x_mmaxL, x_mminL, x_mabsL, lg_cmp_ge, lg_cmp_le, lg_cmp_gt, lg_cmp_lt, lg_cmp_eq, xlk, q_xs1, q_xs2, lv_args, Value.category, List.filter_cons, List.filter_nil, Nat.reduceAdd, Nat.reduceBEq, Nat.reduceEqDiff, Nat.reduceSub, Nat.sub_zero, beq_self_eq_true, Bool.not_true, Bool.not_false, Bool.and_true, Bool.and_false, Bool.true_and, Bool.false_and, reduceIte, reduceCtorEq, Bool.false_eq_true, Nat.one_ne_zero, Nat.zero_ne_one, Nat.zero_add, Option.toList_some, Option.toList_none, List.nil_append, List.cons_append, List.take_succ_cons, List.take_zero, List.take_nil, List.drop_succ_cons, List.drop_zero, List.length_cons, List.length_nil, List.reverse_cons, List.reverse_nil, List.head?_cons, List.map_cons, List.map_nil, List.sum_cons, List.sum_nil, true_and, and_true, List.getElem?_cons_zero, List.getElem?_cons_succ, Prod.eta, x_iast, x_bald, x_bast, x_last, x_alen, xup_s, xup_a1, xup_1a, xup_uu, nr_i, nr_l, nr_o, nr_a, ft_i, ft_l, ft_o, ft_a, Nat.reduceLT, i_cl0, i_cl1, i_n1, i_m1, List.set_cons_zero, List.set_cons_succ, Nat.reduceLeDiff, Nat.le_refl, Nat.zero_le, Nat.add_zero, x_no, x_ifnull, x_ifnonnull, x_acmp_eq, x_acmp_ne, x_swl, x_tsw, x_castC, true_or, or_true, nr_z, ft_z, nr_z0, nr_z1, ft_z0, ft_z1, nr_on, nr_an, ft_on, ft_an, b_X4_evened_85, b_X4_evened_89]
    refine ⟨u, rfl, hu, ?_⟩
    try simp only [q_c, x_iload, x_lload, x_aload, q_istore, q_lstore, q_astore, q_astore2, x_iinc, q_iadd, q_isub, q_imul, q_iand, q_ior, q_ixor, q_ladd, q_lsub, q_lmul, q_land, q_lor, q_lxor, q_idiv, q_irem, q_ldiv, q_lrem, q_ineg, q_lneg, q_ishl, q_ishr, q_iushr, q_lshl, q_lshr, q_lushr, q_i2l, q_l2i, q_i2b, q_i2c, q_lcmp, q_if_eq, q_if_ne, q_if_lt, q_if_ge, q_if_gt, q_if_le, q_icmp_eq, q_icmp_ne, q_icmp_lt, q_icmp_ge, q_icmp_gt, q_icmp_le, q_dup, q_pop, q_dup_x1, q_dup2, x_iret, x_zret, x_lret, x_aret, x_vret, x_call, x_callv, x_calli, x_oinit, x_mmax, x_mmin, x_mabs, x_mmaxL, x_mminL, x_mabsL, lg_cmp_ge, lg_cmp_le, lg_cmp_gt, lg_cmp_lt, lg_cmp_eq, xlk, q_xs1, q_xs2, lv_args, Value.category, List.filter_cons, List.filter_nil, Nat.reduceAdd, Nat.reduceBEq, Nat.reduceEqDiff, Nat.reduceSub, Nat.sub_zero, beq_self_eq_true, Bool.not_true, Bool.not_false, Bool.and_true, Bool.and_false, Bool.true_and, Bool.false_and, reduceIte, reduceCtorEq, Bool.false_eq_true, Nat.one_ne_zero, Nat.zero_ne_one, Nat.zero_add, Option.toList_some, Option.toList_none, List.nil_append, List.cons_append, List.take_succ_cons, List.take_zero, List.take_nil, List.drop_succ_cons, List.drop_zero, List.length_cons, List.length_nil, List.reverse_cons, List.reverse_nil, List.head?_cons, List.map_cons, List.map_nil, List.sum_cons, List.sum_nil, true_and, and_true, List.getElem?_cons_zero, List.getElem?_cons_succ, Prod.eta, x_iast, x_bald, x_bast, x_last, x_alen, xup_s, xup_a1, xup_1a, xup_uu, nr_i, nr_l, nr_o, nr_a, ft_i, ft_l, ft_o, ft_a, Nat.reduceLT, i_cl0, i_cl1, i_n1, i_m1, List.set_cons_zero, List.set_cons_succ, Nat.reduceLeDiff, Nat.le_refl, Nat.zero_le, Nat.add_zero, x_no, x_ifnull, x_ifnonnull, x_acmp_eq, x_acmp_ne, x_swl, x_tsw, x_castC, true_or, or_true, nr_z, ft_z, nr_z0, nr_z1, ft_z0, ft_z1, nr_on, nr_an, ft_on, ft_an]
    exact fin _ (by unfold evF; rw [if_neg (by rw [hb]; decide)])
  have g57 : mhB u = true → ∀ t, t = decide (fP u / 2 ^ (1075 - u / 2 ^ 52) % 2 = 1) → b_X4_evened_57 Q [(4, .long (lN (fP u % 2 ^ (1075 - u / 2 ^ 52)))), (2, .long (lN (2 ^ (1074 - u / 2 ^ 52)))), (0, .long (lN u))] [.int (bI t)] S := by
    intro m t ht
    have m1 := of_decide_eq_true m
    have p : 2 ^ (1074 - u / 2 ^ 52) < 2 ^ 54 := Nat.pow_lt_pow_right (by decide) (by omega)
    have q : fP u % 2 ^ (1075 - u / 2 ^ 52) < 2 ^ 54 := Nat.lt_of_le_of_lt (Nat.mod_le _ _) (by omega)
    have z0 : lN (fP u % 2 ^ (1075 - u / 2 ^ 52)) = lN (2 ^ (1074 - u / 2 ^ 52)) ↔ fP u % 2 ^ (1075 - u / 2 ^ 52) = 2 ^ (1074 - u / 2 ^ 52) := pk_lEQ (by omega) (by omega)
    have z1 : lN (2 ^ (1074 - u / 2 ^ 52)) < lN (fP u % 2 ^ (1075 - u / 2 ^ 52)) ↔ 2 ^ (1074 - u / 2 ^ 52) < fP u % 2 ^ (1075 - u / 2 ^ 52) := pk_lLT (by omega) (by omega)
    unfold b_X4_evened_57
    generalize b_X4_evened_78 Q = J78 at *
    generalize b_X4_evened_85 Q = J85 at *
    simp only [q_c, x_iload, x_lload, x_aload, q_istore, q_lstore, q_astore, q_astore2, x_iinc, q_iadd, q_isub, q_imul, q_iand, q_ior, q_ixor, q_ladd, q_lsub, q_lmul, q_land, q_lor, q_lxor, q_idiv, q_irem, q_ldiv, q_lrem, q_ineg, q_lneg, q_ishl, q_ishr, q_iushr, q_lshl, q_lshr, q_lushr, q_i2l, q_l2i, q_i2b, q_i2c, q_lcmp, q_if_eq, q_if_ne, q_if_lt, q_if_ge, q_if_gt, q_if_le, q_icmp_eq, q_icmp_ne, q_icmp_lt, q_icmp_ge, q_icmp_gt, q_icmp_le, q_dup, q_pop, q_dup_x1, q_dup2, x_iret, x_zret, x_lret, x_aret, x_vret, x_call, x_callv, x_calli, x_oinit, x_mmax, x_mmin, x_mabs, x_mmaxL, x_mminL, x_mabsL, lg_cmp_ge, lg_cmp_le, lg_cmp_gt, lg_cmp_lt, lg_cmp_eq, xlk, q_xs1, q_xs2, lv_args, Value.category, List.filter_cons, List.filter_nil, Nat.reduceAdd, Nat.reduceBEq, Nat.reduceEqDiff, Nat.reduceSub, Nat.sub_zero, beq_self_eq_true, Bool.not_true, Bool.not_false, Bool.and_true, Bool.and_false, Bool.true_and, Bool.false_and, reduceIte, reduceCtorEq, Bool.false_eq_true, Nat.one_ne_zero, Nat.zero_ne_one, Nat.zero_add, Option.toList_some, Option.toList_none, List.nil_append, List.cons_append, List.take_succ_cons, List.take_zero, List.take_nil, List.drop_succ_cons, List.drop_zero, List.length_cons, List.length_nil, List.reverse_cons, List.reverse_nil, List.head?_cons, List.map_cons, List.map_nil, List.sum_cons, List.sum_nil, true_and, and_true, List.getElem?_cons_zero, List.getElem?_cons_succ, Prod.eta, x_iast, x_bald, x_bast, x_last, x_alen, xup_s, xup_a1, xup_1a, xup_uu, nr_i, nr_l, nr_o, nr_a, ft_i, ft_l, ft_o, ft_a, Nat.reduceLT, i_cl0, i_cl1, i_n1, i_m1, List.set_cons_zero, List.set_cons_succ, Nat.reduceLeDiff, Nat.le_refl, Nat.zero_le, Nat.add_zero, x_no, x_ifnull, x_ifnonnull, x_acmp_eq, x_acmp_ne, x_swl, x_tsw, x_castC, true_or, or_true, nr_z, ft_z, nr_z0, nr_z1, ft_z0, ft_z1, nr_on, nr_an, ft_on, ft_an, z0, z1, bI_e0]
    refine ⟨fun a => g78 ?_ _, fun a => ⟨fun b => g85 ?_ _, fun b => ⟨fun c => g85 ?_ _, fun c => g78 ?_ _⟩⟩⟩
    · unfold evB
      rw [m, decide_eq_true (Or.inl a)]
      rfl
    · unfold evB
      rw [decide_eq_false (by rintro (x | x); exact a x; exact b x.1), Bool.and_false]
    · unfold evB
      rw [ht] at c
      have := of_decide_eq_false c
      rw [decide_eq_false (by rintro (x | x); exact a x; exact this x.2), Bool.and_false]
    · unfold evB
      rw [ht] at c
      have := of_decide_eq_true (eq_true_of_ne_false c)
      rw [m, decide_eq_true (Or.inr ⟨b, this⟩)]
      rfl
  unfold b_X4_evened_0
  generalize b_X4_evened_57 Q = J57 at *
  try simp only [q_c, x_iload, x_lload, x_aload, q_istore, q_lstore, q_astore, q_astore2, x_iinc, q_iadd, q_isub, q_imul, q_iand, q_ior, q_ixor, q_ladd, q_lsub, q_lmul, q_land, q_lor, q_lxor, q_idiv, q_irem, q_ldiv, q_lrem, q_ineg, q_lneg, q_ishl, q_ishr, q_iushr, q_lshl, q_lshr, q_lushr, q_i2l, q_l2i, q_i2b, q_i2c, q_lcmp, q_if_eq, q_if_ne, q_if_lt, q_if_ge, q_if_gt, q_if_le, q_icmp_eq, q_icmp_ne, q_icmp_lt, q_icmp_ge, q_icmp_gt, q_icmp_le, q_dup, q_pop, q_dup_x1, q_dup2, x_iret, x_zret, x_lret, x_aret, x_vret, x_call, x_callv, x_calli, x_oinit, x_mmax, x_mmin, x_mabs, x_mmaxL, x_mminL, x_mabsL, lg_cmp_ge, lg_cmp_le, lg_cmp_gt, lg_cmp_lt, lg_cmp_eq, xlk, q_xs1, q_xs2, lv_args, Value.category, List.filter_cons, List.filter_nil, Nat.reduceAdd, Nat.reduceBEq, Nat.reduceEqDiff, Nat.reduceSub, Nat.sub_zero, beq_self_eq_true, Bool.not_true, Bool.not_false, Bool.and_true, Bool.and_false, Bool.true_and, Bool.false_and, reduceIte, reduceCtorEq, Bool.false_eq_true, Nat.one_ne_zero, Nat.zero_ne_one, Nat.zero_add, Option.toList_some, Option.toList_none, List.nil_append, List.cons_append, List.take_succ_cons, List.take_zero, List.take_nil, List.drop_succ_cons, List.drop_zero, List.length_cons, List.length_nil, List.reverse_cons, List.reverse_nil, List.head?_cons, List.map_cons, List.map_nil, List.sum_cons, List.sum_nil, true_and, and_true, List.getElem?_cons_zero, List.getElem?_cons_succ, Prod.eta, x_iast, x_bald, x_bast, x_last, x_alen, xup_s, xup_a1, xup_1a, xup_uu, nr_i, nr_l, nr_o, nr_a, ft_i, ft_l, ft_o, ft_a, Nat.reduceLT, i_cl0, i_cl1, i_n1, i_m1, List.set_cons_zero, List.set_cons_succ, Nat.reduceLeDiff, Nat.le_refl, Nat.zero_le, Nat.add_zero, x_no, x_ifnull, x_ifnonnull, x_acmp_eq, x_acmp_ne, x_swl, x_tsw, x_castC, true_or, or_true, nr_z, ft_z, nr_z0, nr_z1, ft_z0, ft_z1, nr_on, nr_an, ft_on, ft_an]
  refine ⟨u, rfl, hu, ?_⟩
  simp only [q_c, x_iload, x_lload, x_aload, q_istore, q_lstore, q_astore, q_astore2, x_iinc, q_iadd, q_isub, q_imul, q_iand, q_ior, q_ixor, q_ladd, q_lsub, q_lmul, q_land, q_lor, q_lxor, q_idiv, q_irem, q_ldiv, q_lrem, q_ineg, q_lneg, q_ishl, q_ishr, q_iushr, q_lshl, q_lshr, q_lushr, q_i2l, q_l2i, q_i2b, q_i2c, q_lcmp, q_if_eq, q_if_ne, q_if_lt, q_if_ge, q_if_gt, q_if_le, q_icmp_eq, q_icmp_ne, q_icmp_lt, q_icmp_ge, q_icmp_gt, q_icmp_le, q_dup, q_pop, q_dup_x1, q_dup2, x_iret, x_zret, x_lret, x_aret, x_vret, x_call, x_callv, x_calli, x_oinit, x_mmax, x_mmin, x_mabs, x_mmaxL, x_mminL, x_mabsL, lg_cmp_ge, lg_cmp_le, lg_cmp_gt, lg_cmp_lt, lg_cmp_eq, xlk, q_xs1, q_xs2, lv_args, Value.category, List.filter_cons, List.filter_nil, Nat.reduceAdd, Nat.reduceBEq, Nat.reduceEqDiff, Nat.reduceSub, Nat.sub_zero, beq_self_eq_true, Bool.not_true, Bool.not_false, Bool.and_true, Bool.and_false, Bool.true_and, Bool.false_and, reduceIte, reduceCtorEq, Bool.false_eq_true, Nat.one_ne_zero, Nat.zero_ne_one, Nat.zero_add, Option.toList_some, Option.toList_none, List.nil_append, List.cons_append, List.take_succ_cons, List.take_zero, List.take_nil, List.drop_succ_cons, List.drop_zero, List.length_cons, List.length_nil, List.reverse_cons, List.reverse_nil, List.head?_cons, List.map_cons, List.map_nil, List.sum_cons, List.sum_nil, true_and, and_true, List.getElem?_cons_zero, List.getElem?_cons_succ, Prod.eta, x_iast, x_bald, x_bast, x_last, x_alen, xup_s, xup_a1, xup_1a, xup_uu, nr_i, nr_l, nr_o, nr_a, ft_i, ft_l, ft_o, ft_a, Nat.reduceLT, i_cl0, i_cl1, i_n1, i_m1, List.set_cons_zero, List.set_cons_succ, Nat.reduceLeDiff, Nat.le_refl, Nat.zero_le, Nat.add_zero, x_no, x_ifnull, x_ifnonnull, x_acmp_eq, x_acmp_ne, x_swl, x_tsw, x_castC, true_or, or_true, nr_z, ft_z, nr_z0, nr_z1, ft_z0, ft_z1, nr_on, nr_an, ft_on, ft_an, bI_e0]
  refine ⟨fun a => ⟨u, rfl, hu, ?_⟩, fun a => ⟨u, rfl, hu, ?_⟩⟩
  · have m := eq_true_of_ne_false a
    have m1 := of_decide_eq_true m
    simp only [q_c, x_iload, x_lload, x_aload, q_istore, q_lstore, q_astore, q_astore2, x_iinc, q_iadd, q_isub, q_imul, q_iand, q_ior, q_ixor, q_ladd, q_lsub, q_lmul, q_land, q_lor, q_lxor, q_idiv, q_irem, q_ldiv, q_lrem, q_ineg, q_lneg, q_ishl, q_ishr, q_iushr, q_lshl, q_lshr, q_lushr, q_i2l, q_l2i, q_i2b, q_i2c, q_lcmp, q_if_eq, q_if_ne, q_if_lt, q_if_ge, q_if_gt, q_if_le, q_icmp_eq, q_icmp_ne, q_icmp_lt, q_icmp_ge, q_icmp_gt, q_icmp_le, q_dup, q_pop, q_dup_x1, q_dup2, x_iret, x_zret, x_lret, x_aret, x_vret, x_call, x_callv, x_calli, x_oinit, x_mmax, x_mmin, x_mabs, x_mmaxL, x_mminL, x_mabsL, lg_cmp_ge, lg_cmp_le, lg_cmp_gt, lg_cmp_lt, lg_cmp_eq, xlk, q_xs1, q_xs2, lv_args, Value.category, List.filter_cons, List.filter_nil, Nat.reduceAdd, Nat.reduceBEq, Nat.reduceEqDiff, Nat.reduceSub, Nat.sub_zero, beq_self_eq_true, Bool.not_true, Bool.not_false, Bool.and_true, Bool.and_false, Bool.true_and, Bool.false_and, reduceIte, reduceCtorEq, Bool.false_eq_true, Nat.one_ne_zero, Nat.zero_ne_one, Nat.zero_add, Option.toList_some, Option.toList_none, List.nil_append, List.cons_append, List.take_succ_cons, List.take_zero, List.take_nil, List.drop_succ_cons, List.drop_zero, List.length_cons, List.length_nil, List.reverse_cons, List.reverse_nil, List.head?_cons, List.map_cons, List.map_nil, List.sum_cons, List.sum_nil, true_and, and_true, List.getElem?_cons_zero, List.getElem?_cons_succ, Prod.eta, x_iast, x_bald, x_bast, x_last, x_alen, xup_s, xup_a1, xup_1a, xup_uu, nr_i, nr_l, nr_o, nr_a, ft_i, ft_l, ft_o, ft_a, Nat.reduceLT, i_cl0, i_cl1, i_n1, i_m1, List.set_cons_zero, List.set_cons_succ, Nat.reduceLeDiff, Nat.le_refl, Nat.zero_le, Nat.add_zero, x_no, x_ifnull, x_ifnonnull, x_acmp_eq, x_acmp_ne, x_swl, x_tsw, x_castC, true_or, or_true, nr_z, ft_z, nr_z0, nr_z1, ft_z0, ft_z1, nr_on, nr_an, ft_on, ft_an, l_hf m1.1 m1.2]
    refine ⟨u, rfl, hu, ?_⟩
    simp only [q_c, x_iload, x_lload, x_aload, q_istore, q_lstore, q_astore, q_astore2, x_iinc, q_iadd, q_isub, q_imul, q_iand, q_ior, q_ixor, q_ladd, q_lsub, q_lmul, q_land, q_lor, q_lxor, q_idiv, q_irem, q_ldiv, q_lrem, q_ineg, q_lneg, q_ishl, q_ishr, q_iushr, q_lshl, q_lshr, q_lushr, q_i2l, q_l2i, q_i2b, q_i2c, q_lcmp, q_if_eq, q_if_ne, q_if_lt, q_if_ge, q_if_gt, q_if_le, q_icmp_eq, q_icmp_ne, q_icmp_lt, q_icmp_ge, q_icmp_gt, q_icmp_le, q_dup, q_pop, q_dup_x1, q_dup2, x_iret, x_zret, x_lret, x_aret, x_vret, x_call, x_callv, x_calli, x_oinit, x_mmax, x_mmin, x_mabs, x_mmaxL, x_mminL, x_mabsL, lg_cmp_ge, lg_cmp_le, lg_cmp_gt, lg_cmp_lt, lg_cmp_eq, xlk, q_xs1, q_xs2, lv_args, Value.category, List.filter_cons, List.filter_nil, Nat.reduceAdd, Nat.reduceBEq, Nat.reduceEqDiff, Nat.reduceSub, Nat.sub_zero, beq_self_eq_true, Bool.not_true, Bool.not_false, Bool.and_true, Bool.and_false, Bool.true_and, Bool.false_and, reduceIte, reduceCtorEq, Bool.false_eq_true, Nat.one_ne_zero, Nat.zero_ne_one, Nat.zero_add, Option.toList_some, Option.toList_none, List.nil_append, List.cons_append, List.take_succ_cons, List.take_zero, List.take_nil, List.drop_succ_cons, List.drop_zero, List.length_cons, List.length_nil, List.reverse_cons, List.reverse_nil, List.head?_cons, List.map_cons, List.map_nil, List.sum_cons, List.sum_nil, true_and, and_true, List.getElem?_cons_zero, List.getElem?_cons_succ, Prod.eta, x_iast, x_bald, x_bast, x_last, x_alen, xup_s, xup_a1, xup_1a, xup_uu, nr_i, nr_l, nr_o, nr_a, ft_i, ft_l, ft_o, ft_a, Nat.reduceLT, i_cl0, i_cl1, i_n1, i_m1, List.set_cons_zero, List.set_cons_succ, Nat.reduceLeDiff, Nat.le_refl, Nat.zero_le, Nat.add_zero, x_no, x_ifnull, x_ifnonnull, x_acmp_eq, x_acmp_ne, x_swl, x_tsw, x_castC, true_or, or_true, nr_z, ft_z, nr_z0, nr_z1, ft_z0, ft_z1, nr_on, nr_an, ft_on, ft_an, l_bh m1.1 m1.2]
    refine ⟨u, rfl, hu, ?_⟩
    have p : 2 ^ (1075 - u / 2 ^ 52) < 2 ^ 54 := Nat.pow_lt_pow_right (by decide) (by omega)
    have p0 : 0 < 2 ^ (1075 - u / 2 ^ 52) := Nat.pow_pos (by decide)
    have z0 : lN (fP u / 2 ^ (1075 - u / 2 ^ 52) % 2 * 2 ^ (1075 - u / 2 ^ 52)) = 0 ↔ ¬ fP u / 2 ^ (1075 - u / 2 ^ 52) % 2 = 1 := by
      rcases Nat.mod_two_eq_zero_or_one (fP u / 2 ^ (1075 - u / 2 ^ 52)) with z | z
      · rw [z, Nat.zero_mul]
        exact ⟨fun _ => by decide, fun _ => rfl⟩
      · rw [z, Nat.one_mul]
        have : lN (2 ^ (1075 - u / 2 ^ 52)) = 0 ↔ 2 ^ (1075 - u / 2 ^ 52) = 0 := pk_lEQ (b := 0) (by omega) (by decide)
        rw [this]
        exact ⟨fun x => by omega, fun x => absurd rfl x⟩
    simp only [q_c, x_iload, x_lload, x_aload, q_istore, q_lstore, q_astore, q_astore2, x_iinc, q_iadd, q_isub, q_imul, q_iand, q_ior, q_ixor, q_ladd, q_lsub, q_lmul, q_land, q_lor, q_lxor, q_idiv, q_irem, q_ldiv, q_lrem, q_ineg, q_lneg, q_ishl, q_ishr, q_iushr, q_lshl, q_lshr, q_lushr, q_i2l, q_l2i, q_i2b, q_i2c, q_lcmp, q_if_eq, q_if_ne, q_if_lt, q_if_ge, q_if_gt, q_if_le, q_icmp_eq, q_icmp_ne, q_icmp_lt, q_icmp_ge, q_icmp_gt, q_icmp_le, q_dup, q_pop, q_dup_x1, q_dup2, x_iret, x_zret, x_lret, x_aret, x_vret, x_call, x_callv, x_calli, x_oinit, x_mmax, x_mmin, x_mabs, x_mmaxL, x_mminL, x_mabsL, lg_cmp_ge, lg_cmp_le, lg_cmp_gt, lg_cmp_lt, lg_cmp_eq, xlk, q_xs1, q_xs2, lv_args, Value.category, List.filter_cons, List.filter_nil, Nat.reduceAdd, Nat.reduceBEq, Nat.reduceEqDiff, Nat.reduceSub, Nat.sub_zero, beq_self_eq_true, Bool.not_true, Bool.not_false, Bool.and_true, Bool.and_false, Bool.true_and, Bool.false_and, reduceIte, reduceCtorEq, Bool.false_eq_true, Nat.one_ne_zero, Nat.zero_ne_one, Nat.zero_add, Option.toList_some, Option.toList_none, List.nil_append, List.cons_append, List.take_succ_cons, List.take_zero, List.take_nil, List.drop_succ_cons, List.drop_zero, List.length_cons, List.length_nil, List.reverse_cons, List.reverse_nil, List.head?_cons, List.map_cons, List.map_nil, List.sum_cons, List.sum_nil, true_and, and_true, List.getElem?_cons_zero, List.getElem?_cons_succ, Prod.eta, x_iast, x_bald, x_bast, x_last, x_alen, xup_s, xup_a1, xup_1a, xup_uu, nr_i, nr_l, nr_o, nr_a, ft_i, ft_l, ft_o, ft_a, Nat.reduceLT, i_cl0, i_cl1, i_n1, i_m1, List.set_cons_zero, List.set_cons_succ, Nat.reduceLeDiff, Nat.le_refl, Nat.zero_le, Nat.add_zero, x_no, x_ifnull, x_ifnonnull, x_acmp_eq, x_acmp_ne, x_swl, x_tsw, x_castC, true_or, or_true, nr_z, ft_z, nr_z0, nr_z1, ft_z0, ft_z1, nr_on, nr_an, ft_on, ft_an, l_od m1.1 m1.2, z0]
    refine ⟨fun b => g57 m false (decide_eq_false b).symm, fun b => g57 m true (decide_eq_true (Decidable.not_not.mp b)).symm⟩
  · try simp only [q_c, x_iload, x_lload, x_aload, q_istore, q_lstore, q_astore, q_astore2, x_iinc, q_iadd, q_isub, q_imul, q_iand, q_ior, q_ixor, q_ladd, q_lsub, q_lmul, q_land, q_lor, q_lxor, q_idiv, q_irem, q_ldiv, q_lrem, q_ineg, q_lneg, q_ishl, q_ishr, q_iushr, q_lshl, q_lshr, q_lushr, q_i2l, q_l2i, q_i2b, q_i2c, q_lcmp, q_if_eq, q_if_ne, q_if_lt, q_if_ge, q_if_gt, q_if_le, q_icmp_eq, q_icmp_ne, q_icmp_lt, q_icmp_ge, q_icmp_gt, q_icmp_le, q_dup, q_pop, q_dup_x1, q_dup2, x_iret, x_zret, x_lret, x_aret, x_vret, x_call, x_callv, x_calli, x_oinit, x_mmax, x_mmin, x_mabs, x_mmaxL, x_mminL, x_mabsL, lg_cmp_ge, lg_cmp_le, lg_cmp_gt, lg_cmp_lt, lg_cmp_eq, xlk, q_xs1, q_xs2, lv_args, Value.category, List.filter_cons, List.filter_nil, Nat.reduceAdd, Nat.reduceBEq, Nat.reduceEqDiff, Nat.reduceSub, Nat.sub_zero, beq_self_eq_true, Bool.not_true, Bool.not_false, Bool.and_true, Bool.and_false, Bool.true_and, Bool.false_and, reduceIte, reduceCtorEq, Bool.false_eq_true, Nat.one_ne_zero, Nat.zero_ne_one, Nat.zero_add, Option.toList_some, Option.toList_none, List.nil_append, List.cons_append, List.take_succ_cons, List.take_zero, List.take_nil, List.drop_succ_cons, List.drop_zero, List.length_cons, List.length_nil, List.reverse_cons, List.reverse_nil, List.head?_cons, List.map_cons, List.map_nil, List.sum_cons, List.sum_nil, true_and, and_true, List.getElem?_cons_zero, List.getElem?_cons_succ, Prod.eta, x_iast, x_bald, x_bast, x_last, x_alen, xup_s, xup_a1, xup_1a, xup_uu, nr_i, nr_l, nr_o, nr_a, ft_i, ft_l, ft_o, ft_a, Nat.reduceLT, i_cl0, i_cl1, i_n1, i_m1, List.set_cons_zero, List.set_cons_succ, Nat.reduceLeDiff, Nat.le_refl, Nat.zero_le, Nat.add_zero, x_no, x_ifnull, x_ifnonnull, x_acmp_eq, x_acmp_ne, x_swl, x_tsw, x_castC, true_or, or_true, nr_z, ft_z, nr_z0, nr_z1, ft_z0, ft_z1, nr_on, nr_an, ft_on, ft_an]
    exact fin _ (by unfold evF evB; rw [a]; rfl)
theorem dX4_step_0 : decode cX4_step 0 = .ok (.lload_n 1, 1) := by decide +kernel
theorem dX4_step_1 : decode cX4_step 1 = .ok (.invokestatic 51, 3) := by decide +kernel
theorem dX4_step_4 : decode cX4_step 4 = .ok (.lstore_n 3, 1) := by decide +kernel
theorem dX4_step_5 : decode cX4_step 5 = .ok (.iload_n 0, 1) := by decide +kernel
theorem dX4_step_6 : decode cX4_step 6 = .ok (.tableswitch 101 5 8 #[30, 48, 70, 92], 30) := by decide +kernel
theorem dX4_step_36 : decode cX4_step 36 = .ok (.lload_n 3, 1) := by decide +kernel
theorem dX4_step_37 : decode cX4_step 37 = .ok (.lconst 0, 1) := by decide +kernel
theorem dX4_step_38 : decode cX4_step 38 = .ok (.lcmp, 1) := by decide +kernel
theorem dX4_step_39 : decode cX4_step 39 = .ok (.ifCond .ne 7, 3) := by decide +kernel
theorem dX4_step_42 : decode cX4_step 42 = .ok (.lconst 0, 1) := by decide +kernel
theorem dX4_step_43 : decode cX4_step 43 = .ok (.goto 6, 3) := by decide +kernel
theorem dX4_step_46 : decode cX4_step 46 = .ok (.ldc2_w 27, 3) := by decide +kernel
theorem dX4_step_49 : decode cX4_step 49 = .ok (.lstore 5, 2) := by decide +kernel
theorem dX4_step_51 : decode cX4_step 51 = .ok (.goto 62, 3) := by decide +kernel
theorem dX4_step_54 : decode cX4_step 54 = .ok (.lload_n 1, 1) := by decide +kernel
theorem dX4_step_55 : decode cX4_step 55 = .ok (.lconst 0, 1) := by decide +kernel
theorem dX4_step_56 : decode cX4_step 56 = .ok (.lcmp, 1) := by decide +kernel
theorem dX4_step_57 : decode cX4_step 57 = .ok (.ifCond .le 10, 3) := by decide +kernel
theorem dX4_step_60 : decode cX4_step 60 = .ok (.lload_n 3, 1) := by decide +kernel
theorem dX4_step_61 : decode cX4_step 61 = .ok (.invokestatic 54, 3) := by decide +kernel
theorem dX4_step_64 : decode cX4_step 64 = .ok (.goto 7, 3) := by decide +kernel
theorem dX4_step_67 : decode cX4_step 67 = .ok (.lload_n 3, 1) := by decide +kernel
theorem dX4_step_68 : decode cX4_step 68 = .ok (.invokestatic 23, 3) := by decide +kernel
theorem dX4_step_71 : decode cX4_step 71 = .ok (.lstore 5, 2) := by decide +kernel
theorem dX4_step_73 : decode cX4_step 73 = .ok (.goto 40, 3) := by decide +kernel
theorem dX4_step_76 : decode cX4_step 76 = .ok (.lload_n 1, 1) := by decide +kernel
theorem dX4_step_77 : decode cX4_step 77 = .ok (.lconst 0, 1) := by decide +kernel
theorem dX4_step_78 : decode cX4_step 78 = .ok (.lcmp, 1) := by decide +kernel
theorem dX4_step_79 : decode cX4_step 79 = .ok (.ifCond .le 10, 3) := by decide +kernel
theorem dX4_step_82 : decode cX4_step 82 = .ok (.lload_n 3, 1) := by decide +kernel
theorem dX4_step_83 : decode cX4_step 83 = .ok (.invokestatic 23, 3) := by decide +kernel
theorem dX4_step_86 : decode cX4_step 86 = .ok (.goto 7, 3) := by decide +kernel
theorem dX4_step_89 : decode cX4_step 89 = .ok (.lload_n 3, 1) := by decide +kernel
theorem dX4_step_90 : decode cX4_step 90 = .ok (.invokestatic 54, 3) := by decide +kernel
theorem dX4_step_93 : decode cX4_step 93 = .ok (.lstore 5, 2) := by decide +kernel
theorem dX4_step_95 : decode cX4_step 95 = .ok (.goto 18, 3) := by decide +kernel
theorem dX4_step_98 : decode cX4_step 98 = .ok (.lload_n 3, 1) := by decide +kernel
theorem dX4_step_99 : decode cX4_step 99 = .ok (.invokestatic 23, 3) := by decide +kernel
theorem dX4_step_102 : decode cX4_step 102 = .ok (.lstore 5, 2) := by decide +kernel
theorem dX4_step_104 : decode cX4_step 104 = .ok (.goto 9, 3) := by decide +kernel
theorem dX4_step_107 : decode cX4_step 107 = .ok (.lload_n 3, 1) := by decide +kernel
theorem dX4_step_108 : decode cX4_step 108 = .ok (.invokestatic 57, 3) := by decide +kernel
theorem dX4_step_111 : decode cX4_step 111 = .ok (.lstore 5, 2) := by decide +kernel
theorem dX4_step_113 : decode cX4_step 113 = .ok (.lload_n 1, 1) := by decide +kernel
theorem dX4_step_114 : decode cX4_step 114 = .ok (.lconst 0, 1) := by decide +kernel
theorem dX4_step_115 : decode cX4_step 115 = .ok (.lcmp, 1) := by decide +kernel
theorem dX4_step_116 : decode cX4_step 116 = .ok (.ifCond .ge 9, 3) := by decide +kernel
theorem dX4_step_119 : decode cX4_step 119 = .ok (.lload 5, 2) := by decide +kernel
theorem dX4_step_121 : decode cX4_step 121 = .ok (.lneg, 1) := by decide +kernel
theorem dX4_step_122 : decode cX4_step 122 = .ok (.goto 5, 3) := by decide +kernel
theorem dX4_step_125 : decode cX4_step 125 = .ok (.lload 5, 2) := by decide +kernel
theorem dX4_step_127 : decode cX4_step 127 = .ok (.lreturn, 1) := by decide +kernel
abbrev r_X4_step : Room := { frames := 3, cells := 0, slots := 0, locals := 71 }
abbrev m_X4_step : xMd := (cX4_step, RX4, 7, (some FieldType.long), false, r_X4_step)
def b_X4_step_127 (Q : xQ) : xK := x_lret Q
def b_X4_step_113 (Q : xQ) : xK := x_lload 1 <| x_c (.long 0) <| x_lcmp <| x_if_ge (x_lload 5 <| (b_X4_step_127 Q)) <| x_lload 5 <| x_lneg <| (b_X4_step_127 Q)
def b_X4_step_49 (Q : xQ) : xK := x_lstore 5 <| (b_X4_step_113 Q)
def b_X4_step_71 (Q : xQ) : xK := x_lstore 5 <| (b_X4_step_113 Q)
def b_X4_step_93 (Q : xQ) : xK := x_lstore 5 <| (b_X4_step_113 Q)
def b_X4_step_0 (Q : xQ) : xK := x_lload 1 <| x_mabsL <| x_lstore 3 <| x_iload 0 <| x_tsw 5 8 [x_lload 3 <| x_c (.long 0) <| x_lcmp <| x_if_ne (x_c (.long 4607182418800017408) <| (b_X4_step_49 Q)) <| x_c (.long 0) <| (b_X4_step_49 Q), x_lload 1 <| x_c (.long 0) <| x_lcmp <| x_if_le (x_lload 3 <| x_call C_X4_cut 1 0 0 <| (b_X4_step_71 Q)) <| x_lload 3 <| x_call C_X4_raised 1 0 0 <| (b_X4_step_71 Q), x_lload 1 <| x_c (.long 0) <| x_lcmp <| x_if_le (x_lload 3 <| x_call C_X4_raised 1 0 0 <| (b_X4_step_93 Q)) <| x_lload 3 <| x_call C_X4_cut 1 0 0 <| (b_X4_step_93 Q), x_lload 3 <| x_call C_X4_cut 1 0 0 <| x_lstore 5 <| (b_X4_step_113 Q)] <| x_lload 3 <| x_call C_X4_evened 1 0 0 <| x_lstore 5 <| (b_X4_step_113 Q)
theorem s_X4_step_127 (G : xG) (l : Launch) (Q : xQ) : xW G l m_X4_step xX0 (xPm G Q r_X4_step) 127 (b_X4_step_127 Q) := xo_lret (pc := 127) rfl dX4_step_127
theorem s_X4_step_113 (G : xG) (l : Launch) (Q : xQ) : xW G l m_X4_step xX0 (xPm G Q r_X4_step) 113 (b_X4_step_113 Q) := xo_lload_n (pc := 113) (i := 1) dX4_step_113 rfl <| xo_lconst (pc := 114) dX4_step_114 (by decide) <| xo_lcmp (pc := 115) dX4_step_115 <| xo_if_ge (pc := 116) (tgt := 125) dX4_step_116 (by decide) (xo_lload (pc := 125) (i := 5) dX4_step_125 <| (s_X4_step_127 G l Q)) <| xo_lload (pc := 119) (i := 5) dX4_step_119 <| xo_lneg (pc := 121) dX4_step_121 <| xo_goto (pc := 122) (tgt := 127) dX4_step_122 (by decide) <| (s_X4_step_127 G l Q)
theorem s_X4_step_49 (G : xG) (l : Launch) (Q : xQ) : xW G l m_X4_step xX0 (xPm G Q r_X4_step) 49 (b_X4_step_49 Q) := xo_lstore (pc := 49) (i := 5) dX4_step_49 (by decide) <| xo_goto (pc := 51) (tgt := 113) dX4_step_51 (by decide) <| (s_X4_step_113 G l Q)
theorem s_X4_step_71 (G : xG) (l : Launch) (Q : xQ) : xW G l m_X4_step xX0 (xPm G Q r_X4_step) 71 (b_X4_step_71 Q) := xo_lstore (pc := 71) (i := 5) dX4_step_71 (by decide) <| xo_goto (pc := 73) (tgt := 113) dX4_step_73 (by decide) <| (s_X4_step_113 G l Q)
theorem s_X4_step_93 (G : xG) (l : Launch) (Q : xQ) : xW G l m_X4_step xX0 (xPm G Q r_X4_step) 93 (b_X4_step_93 Q) := xo_lstore (pc := 93) (i := 5) dX4_step_93 (by decide) <| xo_goto (pc := 95) (tgt := 113) dX4_step_95 (by decide) <| (s_X4_step_113 G l Q)
theorem s_X4_step_0 (G : xG) (l : Launch) (Q : xQ) : xW G l m_X4_step xX0 (xPm G Q r_X4_step) 0 (b_X4_step_0 Q) := xo_lload_n (pc := 0) (i := 1) dX4_step_0 rfl <| xo_mabsL (pc := 1) dX4_step_1 kw881 kw475 kw17 kw476 (by decide) <| xo_lstore_n (pc := 4) (i := 3) dX4_step_4 rfl (by decide) <| xo_iload_n (pc := 5) (i := 0) dX4_step_5 rfl <| xo_tsw (pc := 6) (tgt := 107) dX4_step_6 (by decide) rfl (xo_lload_n (pc := 107) (i := 3) dX4_step_107 rfl <| xo_callS (pc := 108) (np := 1) (cM_X4_evened G l) dX4_step_108 kw898 kw896 kw897 kw25 (by decide +kernel) (by decide) <| xo_lstore (pc := 111) (i := 5) dX4_step_111 (by decide) <| (s_X4_step_113 G l Q)) (xtsw_c (t := 36) (by decide) (xo_lload_n (pc := 36) (i := 3) dX4_step_36 rfl <| xo_lconst (pc := 37) dX4_step_37 (by decide) <| xo_lcmp (pc := 38) dX4_step_38 <| xo_if_ne (pc := 39) (tgt := 46) dX4_step_39 (by decide) (xo_ldc2_w (pc := 46) dX4_step_46 kw882 <| (s_X4_step_49 G l Q)) <| xo_lconst (pc := 42) dX4_step_42 (by decide) <| xo_goto (pc := 43) (tgt := 49) dX4_step_43 (by decide) <| (s_X4_step_49 G l Q)) (xtsw_c (t := 54) (by decide) (xo_lload_n (pc := 54) (i := 1) dX4_step_54 rfl <| xo_lconst (pc := 55) dX4_step_55 (by decide) <| xo_lcmp (pc := 56) dX4_step_56 <| xo_if_le (pc := 57) (tgt := 67) dX4_step_57 (by decide) (xo_lload_n (pc := 67) (i := 3) dX4_step_67 rfl <| xo_callS (pc := 68) (np := 1) (cM_X4_cut G l) dX4_step_68 kw888 kw886 kw887 kw25 (by decide +kernel) (by decide) <| (s_X4_step_71 G l Q)) <| xo_lload_n (pc := 60) (i := 3) dX4_step_60 rfl <| xo_callS (pc := 61) (np := 1) (cM_X4_raised G l) dX4_step_61 kw885 kw883 kw884 kw25 (by decide +kernel) (by decide) <| xo_goto (pc := 64) (tgt := 71) dX4_step_64 (by decide) <| (s_X4_step_71 G l Q)) (xtsw_c (t := 76) (by decide) (xo_lload_n (pc := 76) (i := 1) dX4_step_76 rfl <| xo_lconst (pc := 77) dX4_step_77 (by decide) <| xo_lcmp (pc := 78) dX4_step_78 <| xo_if_le (pc := 79) (tgt := 89) dX4_step_79 (by decide) (xo_lload_n (pc := 89) (i := 3) dX4_step_89 rfl <| xo_callS (pc := 90) (np := 1) (cM_X4_raised G l) dX4_step_90 kw885 kw883 kw884 kw25 (by decide +kernel) (by decide) <| (s_X4_step_93 G l Q)) <| xo_lload_n (pc := 82) (i := 3) dX4_step_82 rfl <| xo_callS (pc := 83) (np := 1) (cM_X4_cut G l) dX4_step_83 kw888 kw886 kw887 kw25 (by decide +kernel) (by decide) <| xo_goto (pc := 86) (tgt := 93) dX4_step_86 (by decide) <| (s_X4_step_93 G l Q)) (xtsw_c (t := 98) (by decide) (xo_lload_n (pc := 98) (i := 3) dX4_step_98 rfl <| xo_callS (pc := 99) (np := 1) (cM_X4_cut G l) dX4_step_99 kw888 kw886 kw887 kw25 (by decide +kernel) (by decide) <| xo_lstore (pc := 102) (i := 5) dX4_step_102 (by decide) <| xo_goto (pc := 104) (tgt := 113) dX4_step_104 (by decide) <| (s_X4_step_113 G l Q)) xtsw_n))))

def stS (o : Nat) (k : Int) : Nat := if o = 5 then (if k = 0 then 0 else 4607182418800017408) else if o = 6 then (if 0 < k then rsF k.natAbs else ctF k.natAbs) else if o = 7 then (if 0 < k then ctF k.natAbs else rsF k.natAbs) else if o = 8 then ctF k.natAbs else evF k.natAbs
def stF (o : Nat) (k : Int) : Int := sgZ k (stS o k)
def C_X4_step : xC := fun av S Q => ∃ (o : Nat) (k : Int), av = [.int (nI o), .long (lZ k)] ∧ 5 ≤ o ∧ o ≤ 9 ∧ bF k ∧ Q (some (.long (lZ (stF o k)))) S
theorem cM_X4_step (G : xG) (l : Launch) : xM G l yX4_step cX4_step 7 (some FieldType.long) r_X4_step C_X4_step := by
  refine xM_of (fun Q => b_X4_step_0 Q) RX4 false (s_X4_step_0 G l) (by decide) rfl (by decide) ?_
  rintro av S Q ⟨o, k, rfl, o1, o2, hk, hQ⟩
  refine ⟨Nat.le_of_ble_eq_true rfl, ?_⟩
  have ok : oF k := ⟨by have := hk.1; omega, by have := hk.2; omega⟩
  have ha : k.natAbs < 2 ^ 63 := by have := hk.1; have := hk.2; omega
  have t : (nI o).toInt = (o : Int) := nI_toInt (by omega)
  have g113 : ∀ n, n = stS o k → b_X4_step_113 Q [(5, .long (lN n)), (3, .long (lN k.natAbs)), (0, .int (nI o)), (1, .long (lZ k))] [] S := by
    rintro n rfl
    unfold stF sgZ at hQ
    simp only [q_c, x_iload, x_lload, x_aload, q_istore, q_lstore, q_astore, q_astore2, x_iinc, q_iadd, q_isub, q_imul, q_iand, q_ior, q_ixor, q_ladd, q_lsub, q_lmul, q_land, q_lor, q_lxor, q_idiv, q_irem, q_ldiv, q_lrem, q_ineg, q_lneg, q_ishl, q_ishr, q_iushr, q_lshl, q_lshr, q_lushr, q_i2l, q_l2i, q_i2b, q_i2c, q_lcmp, q_if_eq, q_if_ne, q_if_lt, q_if_ge, q_if_gt, q_if_le, q_icmp_eq, q_icmp_ne, q_icmp_lt, q_icmp_ge, q_icmp_gt, q_icmp_le, q_dup, q_pop, q_dup_x1, q_dup2, x_iret, x_zret, x_lret, x_aret, x_vret, x_call, x_callv, x_calli, x_oinit, x_mmax, x_mmin, x_mabs, x_mmaxL, x_mminL, x_mabsL, lg_cmp_ge, lg_cmp_le, lg_cmp_gt, lg_cmp_lt, lg_cmp_eq, xlk, q_xs1, q_xs2, lv_args, Value.category, List.filter_cons, List.filter_nil, Nat.reduceAdd, Nat.reduceBEq, Nat.reduceEqDiff, Nat.reduceSub, Nat.sub_zero, beq_self_eq_true, Bool.not_true, Bool.not_false, Bool.and_true, Bool.and_false, Bool.true_and, Bool.false_and, reduceIte, reduceCtorEq, Bool.false_eq_true, Nat.one_ne_zero, Nat.zero_ne_one, Nat.zero_add, Option.toList_some, Option.toList_none, List.nil_append, List.cons_append, List.take_succ_cons, List.take_zero, List.take_nil, List.drop_succ_cons, List.drop_zero, List.length_cons, List.length_nil, List.reverse_cons, List.reverse_nil, List.head?_cons, List.map_cons, List.map_nil, List.sum_cons, List.sum_nil, true_and, and_true, List.getElem?_cons_zero, List.getElem?_cons_succ, Prod.eta, x_iast, x_bald, x_bast, x_last, x_alen, xup_s, xup_a1, xup_1a, xup_uu, nr_i, nr_l, nr_o, nr_a, ft_i, ft_l, ft_o, ft_a, Nat.reduceLT, i_cl0, i_cl1, i_n1, i_m1, List.set_cons_zero, List.set_cons_succ, Nat.reduceLeDiff, Nat.le_refl, Nat.zero_le, Nat.add_zero, x_no, x_ifnull, x_ifnonnull, x_acmp_eq, x_acmp_ne, x_swl, x_tsw, x_castC, true_or, or_true, nr_z, ft_z, nr_z0, nr_z1, ft_z0, ft_z1, nr_on, nr_an, ft_on, ft_an, b_X4_step_113, b_X4_step_127, lz_ge0 ok]
    refine ⟨fun a => ?_, fun a => ?_⟩
    · rw [if_neg (by omega)] at hQ
      exact hQ
    · rw [if_pos (by omega), ← lZ_neg] at hQ
      exact hQ
  have z0 : lN k.natAbs = 0 ↔ k = 0 := by
    have : lN k.natAbs = 0 ↔ k.natAbs = 0 := pk_lEQ (b := 0) (by omega) (by decide)
    rw [this, Int.natAbs_eq_zero]
  have d1 : (4607182418800017408 : Int64) = lN 4607182418800017408 := by decide
  have d0 : (0 : Int64) = lN 0 := rfl
  unfold b_X4_step_0 b_X4_step_49 b_X4_step_71 b_X4_step_93
  generalize b_X4_step_113 Q = J at *
  simp only [q_c, x_iload, x_lload, x_aload, q_istore, q_lstore, q_astore, q_astore2, x_iinc, q_iadd, q_isub, q_imul, q_iand, q_ior, q_ixor, q_ladd, q_lsub, q_lmul, q_land, q_lor, q_lxor, q_idiv, q_irem, q_ldiv, q_lrem, q_ineg, q_lneg, q_ishl, q_ishr, q_iushr, q_lshl, q_lshr, q_lushr, q_i2l, q_l2i, q_i2b, q_i2c, q_lcmp, q_if_eq, q_if_ne, q_if_lt, q_if_ge, q_if_gt, q_if_le, q_icmp_eq, q_icmp_ne, q_icmp_lt, q_icmp_ge, q_icmp_gt, q_icmp_le, q_dup, q_pop, q_dup_x1, q_dup2, x_iret, x_zret, x_lret, x_aret, x_vret, x_call, x_callv, x_calli, x_oinit, x_mmax, x_mmin, x_mabs, x_mmaxL, x_mminL, x_mabsL, lg_cmp_ge, lg_cmp_le, lg_cmp_gt, lg_cmp_lt, lg_cmp_eq, xlk, q_xs1, q_xs2, lv_args, Value.category, List.filter_cons, List.filter_nil, Nat.reduceAdd, Nat.reduceBEq, Nat.reduceEqDiff, Nat.reduceSub, Nat.sub_zero, beq_self_eq_true, Bool.not_true, Bool.not_false, Bool.and_true, Bool.and_false, Bool.true_and, Bool.false_and, reduceIte, reduceCtorEq, Bool.false_eq_true, Nat.one_ne_zero, Nat.zero_ne_one, Nat.zero_add, Option.toList_some, Option.toList_none, List.nil_append, List.cons_append, List.take_succ_cons, List.take_zero, List.take_nil, List.drop_succ_cons, List.drop_zero, List.length_cons, List.length_nil, List.reverse_cons, List.reverse_nil, List.head?_cons, List.map_cons, List.map_nil, List.sum_cons, List.sum_nil, true_and, and_true, List.getElem?_cons_zero, List.getElem?_cons_succ, Prod.eta, x_iast, x_bald, x_bast, x_last, x_alen, xup_s, xup_a1, xup_1a, xup_uu, nr_i, nr_l, nr_o, nr_a, ft_i, ft_l, ft_o, ft_a, Nat.reduceLT, i_cl0, i_cl1, i_n1, i_m1, List.set_cons_zero, List.set_cons_succ, Nat.reduceLeDiff, Nat.le_refl, Nat.zero_le, Nat.add_zero, x_no, x_ifnull, x_ifnonnull, x_acmp_eq, x_acmp_ne, x_swl, x_tsw, x_castC, true_or, or_true, nr_z, ft_z, nr_z0, nr_z1, ft_z0, ft_z1, nr_on, nr_an, ft_on, ft_an, x_mabsL, lZ_ab ok, x_tsw, x_swl, t, z0, lz_le0 ok]
  refine ⟨⟨fun c => ⟨fun a => ?_, fun a => ?_⟩, fun c => ⟨fun a => ?_, fun a => ?_⟩, fun c => ⟨fun a => ?_, fun a => ?_⟩, fun c => ?_⟩, fun c => ?_⟩
  · rw [d1]
    exact g113 _ (by unfold stS; rw [if_pos (by omega), if_neg a])
  · rw [d0]
    exact g113 _ (by unfold stS; rw [if_pos (by omega), if_pos a])
  · refine ⟨_, rfl, ha, ?_⟩
    try simp only [q_c, x_iload, x_lload, x_aload, q_istore, q_lstore, q_astore, q_astore2, x_iinc, q_iadd, q_isub, q_imul, q_iand, q_ior, q_ixor, q_ladd, q_lsub, q_lmul, q_land, q_lor, q_lxor, q_idiv, q_irem, q_ldiv, q_lrem, q_ineg, q_lneg, q_ishl, q_ishr, q_iushr, q_lshl, q_lshr, q_lushr, q_i2l, q_l2i, q_i2b, q_i2c, q_lcmp, q_if_eq, q_if_ne, q_if_lt, q_if_ge, q_if_gt, q_if_le, q_icmp_eq, q_icmp_ne, q_icmp_lt, q_icmp_ge, q_icmp_gt, q_icmp_le, q_dup, q_pop, q_dup_x1, q_dup2, x_iret, x_zret, x_lret, x_aret, x_vret, x_call, x_callv, x_calli, x_oinit, x_mmax, x_mmin, x_mabs, x_mmaxL, x_mminL, x_mabsL, lg_cmp_ge, lg_cmp_le, lg_cmp_gt, lg_cmp_lt, lg_cmp_eq, xlk, q_xs1, q_xs2, lv_args, Value.category, List.filter_cons, List.filter_nil, Nat.reduceAdd, Nat.reduceBEq, Nat.reduceEqDiff, Nat.reduceSub, Nat.sub_zero, beq_self_eq_true, Bool.not_true, Bool.not_false, Bool.and_true, Bool.and_false, Bool.true_and, Bool.false_and, reduceIte, reduceCtorEq, Bool.false_eq_true, Nat.one_ne_zero, Nat.zero_ne_one, Nat.zero_add, Option.toList_some, Option.toList_none, List.nil_append, List.cons_append, List.take_succ_cons, List.take_zero, List.take_nil, List.drop_succ_cons, List.drop_zero, List.length_cons, List.length_nil, List.reverse_cons, List.reverse_nil, List.head?_cons, List.map_cons, List.map_nil, List.sum_cons, List.sum_nil, true_and, and_true, List.getElem?_cons_zero, List.getElem?_cons_succ, Prod.eta, x_iast, x_bald, x_bast, x_last, x_alen, xup_s, xup_a1, xup_1a, xup_uu, nr_i, nr_l, nr_o, nr_a, ft_i, ft_l, ft_o, ft_a, Nat.reduceLT, i_cl0, i_cl1, i_n1, i_m1, List.set_cons_zero, List.set_cons_succ, Nat.reduceLeDiff, Nat.le_refl, Nat.zero_le, Nat.add_zero, x_no, x_ifnull, x_ifnonnull, x_acmp_eq, x_acmp_ne, x_swl, x_tsw, x_castC, true_or, or_true, nr_z, ft_z, nr_z0, nr_z1, ft_z0, ft_z1, nr_on, nr_an, ft_on, ft_an]
    exact g113 _ (by unfold stS; rw [if_neg (by omega), if_pos (by omega), if_neg (by omega)])
  · refine ⟨_, rfl, ha, ?_⟩
    try simp only [q_c, x_iload, x_lload, x_aload, q_istore, q_lstore, q_astore, q_astore2, x_iinc, q_iadd, q_isub, q_imul, q_iand, q_ior, q_ixor, q_ladd, q_lsub, q_lmul, q_land, q_lor, q_lxor, q_idiv, q_irem, q_ldiv, q_lrem, q_ineg, q_lneg, q_ishl, q_ishr, q_iushr, q_lshl, q_lshr, q_lushr, q_i2l, q_l2i, q_i2b, q_i2c, q_lcmp, q_if_eq, q_if_ne, q_if_lt, q_if_ge, q_if_gt, q_if_le, q_icmp_eq, q_icmp_ne, q_icmp_lt, q_icmp_ge, q_icmp_gt, q_icmp_le, q_dup, q_pop, q_dup_x1, q_dup2, x_iret, x_zret, x_lret, x_aret, x_vret, x_call, x_callv, x_calli, x_oinit, x_mmax, x_mmin, x_mabs, x_mmaxL, x_mminL, x_mabsL, lg_cmp_ge, lg_cmp_le, lg_cmp_gt, lg_cmp_lt, lg_cmp_eq, xlk, q_xs1, q_xs2, lv_args, Value.category, List.filter_cons, List.filter_nil, Nat.reduceAdd, Nat.reduceBEq, Nat.reduceEqDiff, Nat.reduceSub, Nat.sub_zero, beq_self_eq_true, Bool.not_true, Bool.not_false, Bool.and_true, Bool.and_false, Bool.true_and, Bool.false_and, reduceIte, reduceCtorEq, Bool.false_eq_true, Nat.one_ne_zero, Nat.zero_ne_one, Nat.zero_add, Option.toList_some, Option.toList_none, List.nil_append, List.cons_append, List.take_succ_cons, List.take_zero, List.take_nil, List.drop_succ_cons, List.drop_zero, List.length_cons, List.length_nil, List.reverse_cons, List.reverse_nil, List.head?_cons, List.map_cons, List.map_nil, List.sum_cons, List.sum_nil, true_and, and_true, List.getElem?_cons_zero, List.getElem?_cons_succ, Prod.eta, x_iast, x_bald, x_bast, x_last, x_alen, xup_s, xup_a1, xup_1a, xup_uu, nr_i, nr_l, nr_o, nr_a, ft_i, ft_l, ft_o, ft_a, Nat.reduceLT, i_cl0, i_cl1, i_n1, i_m1, List.set_cons_zero, List.set_cons_succ, Nat.reduceLeDiff, Nat.le_refl, Nat.zero_le, Nat.add_zero, x_no, x_ifnull, x_ifnonnull, x_acmp_eq, x_acmp_ne, x_swl, x_tsw, x_castC, true_or, or_true, nr_z, ft_z, nr_z0, nr_z1, ft_z0, ft_z1, nr_on, nr_an, ft_on, ft_an]
    exact g113 _ (by unfold stS; rw [if_neg (by omega), if_pos (by omega), if_pos (by omega)])
  · refine ⟨_, rfl, ha, ?_⟩
    try simp only [q_c, x_iload, x_lload, x_aload, q_istore, q_lstore, q_astore, q_astore2, x_iinc, q_iadd, q_isub, q_imul, q_iand, q_ior, q_ixor, q_ladd, q_lsub, q_lmul, q_land, q_lor, q_lxor, q_idiv, q_irem, q_ldiv, q_lrem, q_ineg, q_lneg, q_ishl, q_ishr, q_iushr, q_lshl, q_lshr, q_lushr, q_i2l, q_l2i, q_i2b, q_i2c, q_lcmp, q_if_eq, q_if_ne, q_if_lt, q_if_ge, q_if_gt, q_if_le, q_icmp_eq, q_icmp_ne, q_icmp_lt, q_icmp_ge, q_icmp_gt, q_icmp_le, q_dup, q_pop, q_dup_x1, q_dup2, x_iret, x_zret, x_lret, x_aret, x_vret, x_call, x_callv, x_calli, x_oinit, x_mmax, x_mmin, x_mabs, x_mmaxL, x_mminL, x_mabsL, lg_cmp_ge, lg_cmp_le, lg_cmp_gt, lg_cmp_lt, lg_cmp_eq, xlk, q_xs1, q_xs2, lv_args, Value.category, List.filter_cons, List.filter_nil, Nat.reduceAdd, Nat.reduceBEq, Nat.reduceEqDiff, Nat.reduceSub, Nat.sub_zero, beq_self_eq_true, Bool.not_true, Bool.not_false, Bool.and_true, Bool.and_false, Bool.true_and, Bool.false_and, reduceIte, reduceCtorEq, Bool.false_eq_true, Nat.one_ne_zero, Nat.zero_ne_one, Nat.zero_add, Option.toList_some, Option.toList_none, List.nil_append, List.cons_append, List.take_succ_cons, List.take_zero, List.take_nil, List.drop_succ_cons, List.drop_zero, List.length_cons, List.length_nil, List.reverse_cons, List.reverse_nil, List.head?_cons, List.map_cons, List.map_nil, List.sum_cons, List.sum_nil, true_and, and_true, List.getElem?_cons_zero, List.getElem?_cons_succ, Prod.eta, x_iast, x_bald, x_bast, x_last, x_alen, xup_s, xup_a1, xup_1a, xup_uu, nr_i, nr_l, nr_o, nr_a, ft_i, ft_l, ft_o, ft_a, Nat.reduceLT, i_cl0, i_cl1, i_n1, i_m1, List.set_cons_zero, List.set_cons_succ, Nat.reduceLeDiff, Nat.le_refl, Nat.zero_le, Nat.add_zero, x_no, x_ifnull, x_ifnonnull, x_acmp_eq, x_acmp_ne, x_swl, x_tsw, x_castC, true_or, or_true, nr_z, ft_z, nr_z0, nr_z1, ft_z0, ft_z1, nr_on, nr_an, ft_on, ft_an]
    exact g113 _ (by unfold stS; rw [if_neg (by omega), if_neg (by omega), if_pos (by omega), if_neg (by omega)])
  · refine ⟨_, rfl, ha, ?_⟩
    try simp only [q_c, x_iload, x_lload, x_aload, q_istore, q_lstore, q_astore, q_astore2, x_iinc, q_iadd, q_isub, q_imul, q_iand, q_ior, q_ixor, q_ladd, q_lsub, q_lmul, q_land, q_lor, q_lxor, q_idiv, q_irem, q_ldiv, q_lrem, q_ineg, q_lneg, q_ishl, q_ishr, q_iushr, q_lshl, q_lshr, q_lushr, q_i2l, q_l2i, q_i2b, q_i2c, q_lcmp, q_if_eq, q_if_ne, q_if_lt, q_if_ge, q_if_gt, q_if_le, q_icmp_eq, q_icmp_ne, q_icmp_lt, q_icmp_ge, q_icmp_gt, q_icmp_le, q_dup, q_pop, q_dup_x1, q_dup2, x_iret, x_zret, x_lret, x_aret, x_vret, x_call, x_callv, x_calli, x_oinit, x_mmax, x_mmin, x_mabs, x_mmaxL, x_mminL, x_mabsL, lg_cmp_ge, lg_cmp_le, lg_cmp_gt, lg_cmp_lt, lg_cmp_eq, xlk, q_xs1, q_xs2, lv_args, Value.category, List.filter_cons, List.filter_nil, Nat.reduceAdd, Nat.reduceBEq, Nat.reduceEqDiff, Nat.reduceSub, Nat.sub_zero, beq_self_eq_true, Bool.not_true, Bool.not_false, Bool.and_true, Bool.and_false, Bool.true_and, Bool.false_and, reduceIte, reduceCtorEq, Bool.false_eq_true, Nat.one_ne_zero, Nat.zero_ne_one, Nat.zero_add, Option.toList_some, Option.toList_none, List.nil_append, List.cons_append, List.take_succ_cons, List.take_zero, List.take_nil, List.drop_succ_cons, List.drop_zero, List.length_cons, List.length_nil, List.reverse_cons, List.reverse_nil, List.head?_cons, List.map_cons, List.map_nil, List.sum_cons, List.sum_nil, true_and, and_true, List.getElem?_cons_zero, List.getElem?_cons_succ, Prod.eta, x_iast, x_bald, x_bast, x_last, x_alen, xup_s, xup_a1, xup_1a, xup_uu, nr_i, nr_l, nr_o, nr_a, ft_i, ft_l, ft_o, ft_a, Nat.reduceLT, i_cl0, i_cl1, i_n1, i_m1, List.set_cons_zero, List.set_cons_succ, Nat.reduceLeDiff, Nat.le_refl, Nat.zero_le, Nat.add_zero, x_no, x_ifnull, x_ifnonnull, x_acmp_eq, x_acmp_ne, x_swl, x_tsw, x_castC, true_or, or_true, nr_z, ft_z, nr_z0, nr_z1, ft_z0, ft_z1, nr_on, nr_an, ft_on, ft_an]
    exact g113 _ (by unfold stS; rw [if_neg (by omega), if_neg (by omega), if_pos (by omega), if_pos (by omega)])
  · refine ⟨_, rfl, ha, ?_⟩
    try simp only [q_c, x_iload, x_lload, x_aload, q_istore, q_lstore, q_astore, q_astore2, x_iinc, q_iadd, q_isub, q_imul, q_iand, q_ior, q_ixor, q_ladd, q_lsub, q_lmul, q_land, q_lor, q_lxor, q_idiv, q_irem, q_ldiv, q_lrem, q_ineg, q_lneg, q_ishl, q_ishr, q_iushr, q_lshl, q_lshr, q_lushr, q_i2l, q_l2i, q_i2b, q_i2c, q_lcmp, q_if_eq, q_if_ne, q_if_lt, q_if_ge, q_if_gt, q_if_le, q_icmp_eq, q_icmp_ne, q_icmp_lt, q_icmp_ge, q_icmp_gt, q_icmp_le, q_dup, q_pop, q_dup_x1, q_dup2, x_iret, x_zret, x_lret, x_aret, x_vret, x_call, x_callv, x_calli, x_oinit, x_mmax, x_mmin, x_mabs, x_mmaxL, x_mminL, x_mabsL, lg_cmp_ge, lg_cmp_le, lg_cmp_gt, lg_cmp_lt, lg_cmp_eq, xlk, q_xs1, q_xs2, lv_args, Value.category, List.filter_cons, List.filter_nil, Nat.reduceAdd, Nat.reduceBEq, Nat.reduceEqDiff, Nat.reduceSub, Nat.sub_zero, beq_self_eq_true, Bool.not_true, Bool.not_false, Bool.and_true, Bool.and_false, Bool.true_and, Bool.false_and, reduceIte, reduceCtorEq, Bool.false_eq_true, Nat.one_ne_zero, Nat.zero_ne_one, Nat.zero_add, Option.toList_some, Option.toList_none, List.nil_append, List.cons_append, List.take_succ_cons, List.take_zero, List.take_nil, List.drop_succ_cons, List.drop_zero, List.length_cons, List.length_nil, List.reverse_cons, List.reverse_nil, List.head?_cons, List.map_cons, List.map_nil, List.sum_cons, List.sum_nil, true_and, and_true, List.getElem?_cons_zero, List.getElem?_cons_succ, Prod.eta, x_iast, x_bald, x_bast, x_last, x_alen, xup_s, xup_a1, xup_1a, xup_uu, nr_i, nr_l, nr_o, nr_a, ft_i, ft_l, ft_o, ft_a, Nat.reduceLT, i_cl0, i_cl1, i_n1, i_m1, List.set_cons_zero, List.set_cons_succ, Nat.reduceLeDiff, Nat.le_refl, Nat.zero_le, Nat.add_zero, x_no, x_ifnull, x_ifnonnull, x_acmp_eq, x_acmp_ne, x_swl, x_tsw, x_castC, true_or, or_true, nr_z, ft_z, nr_z0, nr_z1, ft_z0, ft_z1, nr_on, nr_an, ft_on, ft_an]
    exact g113 _ (by unfold stS; rw [if_neg (by omega), if_neg (by omega), if_neg (by omega), if_pos (by omega)])
  · refine ⟨_, rfl, ha, ?_⟩
    try simp only [q_c, x_iload, x_lload, x_aload, q_istore, q_lstore, q_astore, q_astore2, x_iinc, q_iadd, q_isub, q_imul, q_iand, q_ior, q_ixor, q_ladd, q_lsub, q_lmul, q_land, q_lor, q_lxor, q_idiv, q_irem, q_ldiv, q_lrem, q_ineg, q_lneg, q_ishl, q_ishr, q_iushr, q_lshl, q_lshr, q_lushr, q_i2l, q_l2i, q_i2b, q_i2c, q_lcmp, q_if_eq, q_if_ne, q_if_lt, q_if_ge, q_if_gt, q_if_le, q_icmp_eq, q_icmp_ne, q_icmp_lt, q_icmp_ge, q_icmp_gt, q_icmp_le, q_dup, q_pop, q_dup_x1, q_dup2, x_iret, x_zret, x_lret, x_aret, x_vret, x_call, x_callv, x_calli, x_oinit, x_mmax, x_mmin, x_mabs, x_mmaxL, x_mminL, x_mabsL, lg_cmp_ge, lg_cmp_le, lg_cmp_gt, lg_cmp_lt, lg_cmp_eq, xlk, q_xs1, q_xs2, lv_args, Value.category, List.filter_cons, List.filter_nil, Nat.reduceAdd, Nat.reduceBEq, Nat.reduceEqDiff, Nat.reduceSub, Nat.sub_zero, beq_self_eq_true, Bool.not_true, Bool.not_false, Bool.and_true, Bool.and_false, Bool.true_and, Bool.false_and, reduceIte, reduceCtorEq, Bool.false_eq_true, Nat.one_ne_zero, Nat.zero_ne_one, Nat.zero_add, Option.toList_some, Option.toList_none, List.nil_append, List.cons_append, List.take_succ_cons, List.take_zero, List.take_nil, List.drop_succ_cons, List.drop_zero, List.length_cons, List.length_nil, List.reverse_cons, List.reverse_nil, List.head?_cons, List.map_cons, List.map_nil, List.sum_cons, List.sum_nil, true_and, and_true, List.getElem?_cons_zero, List.getElem?_cons_succ, Prod.eta, x_iast, x_bald, x_bast, x_last, x_alen, xup_s, xup_a1, xup_1a, xup_uu, nr_i, nr_l, nr_o, nr_a, ft_i, ft_l, ft_o, ft_a, Nat.reduceLT, i_cl0, i_cl1, i_n1, i_m1, List.set_cons_zero, List.set_cons_succ, Nat.reduceLeDiff, Nat.le_refl, Nat.zero_le, Nat.add_zero, x_no, x_ifnull, x_ifnonnull, x_acmp_eq, x_acmp_ne, x_swl, x_tsw, x_castC, true_or, or_true, nr_z, ft_z, nr_z0, nr_z1, ft_z0, ft_z1, nr_on, nr_an, ft_on, ft_an]
    exact g113 _ (by unfold stS; rw [if_neg (by omega), if_neg (by omega), if_neg (by omega), if_neg (by omega)])
theorem dX4_jumps_0 : decode cX4_jumps 0 = .ok (.lload_n 1, 1) := by decide +kernel
theorem dX4_jumps_1 : decode cX4_jumps 1 = .ok (.invokestatic 51, 3) := by decide +kernel
theorem dX4_jumps_4 : decode cX4_jumps 4 = .ok (.lstore_n 3, 1) := by decide +kernel
theorem dX4_jumps_5 : decode cX4_jumps 5 = .ok (.iload_n 0, 1) := by decide +kernel
theorem dX4_jumps_6 : decode cX4_jumps 6 = .ok (.iconst 5, 1) := by decide +kernel
theorem dX4_jumps_7 : decode cX4_jumps 7 = .ok (.if_icmp .ne 15, 3) := by decide +kernel
theorem dX4_jumps_10 : decode cX4_jumps 10 = .ok (.lload_n 1, 1) := by decide +kernel
theorem dX4_jumps_11 : decode cX4_jumps 11 = .ok (.lconst 0, 1) := by decide +kernel
theorem dX4_jumps_12 : decode cX4_jumps 12 = .ok (.lcmp, 1) := by decide +kernel
theorem dX4_jumps_13 : decode cX4_jumps 13 = .ok (.ifCond .ne 7, 3) := by decide +kernel
theorem dX4_jumps_16 : decode cX4_jumps 16 = .ok (.iconst 1, 1) := by decide +kernel
theorem dX4_jumps_17 : decode cX4_jumps 17 = .ok (.goto 4, 3) := by decide +kernel
theorem dX4_jumps_20 : decode cX4_jumps 20 = .ok (.iconst 0, 1) := by decide +kernel
theorem dX4_jumps_21 : decode cX4_jumps 21 = .ok (.ireturn, 1) := by decide +kernel
theorem dX4_jumps_22 : decode cX4_jumps 22 = .ok (.iload_n 0, 1) := by decide +kernel
theorem dX4_jumps_23 : decode cX4_jumps 23 = .ok (.bipush 9, 2) := by decide +kernel
theorem dX4_jumps_25 : decode cX4_jumps 25 = .ok (.if_icmp .ne 8, 3) := by decide +kernel
theorem dX4_jumps_28 : decode cX4_jumps 28 = .ok (.lload_n 3, 1) := by decide +kernel
theorem dX4_jumps_29 : decode cX4_jumps 29 = .ok (.invokestatic 60, 3) := by decide +kernel
theorem dX4_jumps_32 : decode cX4_jumps 32 = .ok (.ireturn, 1) := by decide +kernel
theorem dX4_jumps_33 : decode cX4_jumps 33 = .ok (.lload_n 3, 1) := by decide +kernel
theorem dX4_jumps_34 : decode cX4_jumps 34 = .ok (.invokestatic 23, 3) := by decide +kernel
theorem dX4_jumps_37 : decode cX4_jumps 37 = .ok (.lload_n 3, 1) := by decide +kernel
theorem dX4_jumps_38 : decode cX4_jumps 38 = .ok (.lcmp, 1) := by decide +kernel
theorem dX4_jumps_39 : decode cX4_jumps 39 = .ok (.ifCond .ne 19, 3) := by decide +kernel
theorem dX4_jumps_42 : decode cX4_jumps 42 = .ok (.iload_n 0, 1) := by decide +kernel
theorem dX4_jumps_43 : decode cX4_jumps 43 = .ok (.bipush 8, 2) := by decide +kernel
theorem dX4_jumps_45 : decode cX4_jumps 45 = .ok (.if_icmp .ne 9, 3) := by decide +kernel
theorem dX4_jumps_48 : decode cX4_jumps 48 = .ok (.lload_n 1, 1) := by decide +kernel
theorem dX4_jumps_49 : decode cX4_jumps 49 = .ok (.lconst 0, 1) := by decide +kernel
theorem dX4_jumps_50 : decode cX4_jumps 50 = .ok (.lcmp, 1) := by decide +kernel
theorem dX4_jumps_51 : decode cX4_jumps 51 = .ok (.ifCond .eq 7, 3) := by decide +kernel
theorem dX4_jumps_54 : decode cX4_jumps 54 = .ok (.iconst 1, 1) := by decide +kernel
theorem dX4_jumps_55 : decode cX4_jumps 55 = .ok (.goto 4, 3) := by decide +kernel
theorem dX4_jumps_58 : decode cX4_jumps 58 = .ok (.iconst 0, 1) := by decide +kernel
theorem dX4_jumps_59 : decode cX4_jumps 59 = .ok (.ireturn, 1) := by decide +kernel
abbrev r_X4_jumps : Room := { frames := 3, cells := 0, slots := 0, locals := 65 }
abbrev m_X4_jumps : xMd := (cX4_jumps, RX4, 5, (some FieldType.boolean), false, r_X4_jumps)
def b_X4_jumps_21 (Q : xQ) : xK := x_zret FieldType.boolean Q
def b_X4_jumps_59 (Q : xQ) : xK := x_zret FieldType.boolean Q
def b_X4_jumps_54 (Q : xQ) : xK := x_c (.int 1) <| (b_X4_jumps_59 Q)
def b_X4_jumps_58 (Q : xQ) : xK := x_c (.int 0) <| (b_X4_jumps_59 Q)
def b_X4_jumps_0 (Q : xQ) : xK := x_lload 1 <| x_mabsL <| x_lstore 3 <| x_iload 0 <| x_c (.int 5) <| x_icmp_ne (x_iload 0 <| x_c (.int 9) <| x_icmp_ne (x_lload 3 <| x_call C_X4_cut 1 0 0 <| x_lload 3 <| x_lcmp <| x_if_ne ((b_X4_jumps_58 Q)) <| x_iload 0 <| x_c (.int 8) <| x_icmp_ne ((b_X4_jumps_54 Q)) <| x_lload 1 <| x_c (.long 0) <| x_lcmp <| x_if_eq ((b_X4_jumps_58 Q)) <| (b_X4_jumps_54 Q)) <| x_lload 3 <| x_call C_X4_isHalfway 1 0 0 <| x_zret FieldType.boolean Q) <| x_lload 1 <| x_c (.long 0) <| x_lcmp <| x_if_ne (x_c (.int 0) <| (b_X4_jumps_21 Q)) <| x_c (.int 1) <| (b_X4_jumps_21 Q)
theorem s_X4_jumps_21 (G : xG) (l : Launch) (Q : xQ) : xW G l m_X4_jumps xX0 (xPm G Q r_X4_jumps) 21 (b_X4_jumps_21 Q) := xo_zret (pc := 21) rfl dX4_jumps_21
theorem s_X4_jumps_59 (G : xG) (l : Launch) (Q : xQ) : xW G l m_X4_jumps xX0 (xPm G Q r_X4_jumps) 59 (b_X4_jumps_59 Q) := xo_zret (pc := 59) rfl dX4_jumps_59
theorem s_X4_jumps_54 (G : xG) (l : Launch) (Q : xQ) : xW G l m_X4_jumps xX0 (xPm G Q r_X4_jumps) 54 (b_X4_jumps_54 Q) := xo_iconst (pc := 54) dX4_jumps_54 (by decide) <| xo_goto (pc := 55) (tgt := 59) dX4_jumps_55 (by decide) <| (s_X4_jumps_59 G l Q)
theorem s_X4_jumps_58 (G : xG) (l : Launch) (Q : xQ) : xW G l m_X4_jumps xX0 (xPm G Q r_X4_jumps) 58 (b_X4_jumps_58 Q) := xo_iconst (pc := 58) dX4_jumps_58 (by decide) <| (s_X4_jumps_59 G l Q)
theorem s_X4_jumps_0 (G : xG) (l : Launch) (Q : xQ) : xW G l m_X4_jumps xX0 (xPm G Q r_X4_jumps) 0 (b_X4_jumps_0 Q) := xo_lload_n (pc := 0) (i := 1) dX4_jumps_0 rfl <| xo_mabsL (pc := 1) dX4_jumps_1 kw881 kw475 kw17 kw476 (by decide) <| xo_lstore_n (pc := 4) (i := 3) dX4_jumps_4 rfl (by decide) <| xo_iload_n (pc := 5) (i := 0) dX4_jumps_5 rfl <| xo_iconst (pc := 6) dX4_jumps_6 (by decide) <| xo_icmp_ne (pc := 7) (tgt := 22) dX4_jumps_7 (by decide) (xo_iload_n (pc := 22) (i := 0) dX4_jumps_22 rfl <| xo_bipush (pc := 23) dX4_jumps_23 (by decide) <| xo_icmp_ne (pc := 25) (tgt := 33) dX4_jumps_25 (by decide) (xo_lload_n (pc := 33) (i := 3) dX4_jumps_33 rfl <| xo_callS (pc := 34) (np := 1) (cM_X4_cut G l) dX4_jumps_34 kw888 kw886 kw887 kw25 (by decide +kernel) (by decide) <| xo_lload_n (pc := 37) (i := 3) dX4_jumps_37 rfl <| xo_lcmp (pc := 38) dX4_jumps_38 <| xo_if_ne (pc := 39) (tgt := 58) dX4_jumps_39 (by decide) ((s_X4_jumps_58 G l Q)) <| xo_iload_n (pc := 42) (i := 0) dX4_jumps_42 rfl <| xo_bipush (pc := 43) dX4_jumps_43 (by decide) <| xo_icmp_ne (pc := 45) (tgt := 54) dX4_jumps_45 (by decide) ((s_X4_jumps_54 G l Q)) <| xo_lload_n (pc := 48) (i := 1) dX4_jumps_48 rfl <| xo_lconst (pc := 49) dX4_jumps_49 (by decide) <| xo_lcmp (pc := 50) dX4_jumps_50 <| xo_if_eq (pc := 51) (tgt := 58) dX4_jumps_51 (by decide) ((s_X4_jumps_58 G l Q)) <| (s_X4_jumps_54 G l Q)) <| xo_lload_n (pc := 28) (i := 3) dX4_jumps_28 rfl <| xo_callS (pc := 29) (np := 1) (cM_X4_isHalfway G l) dX4_jumps_29 kw924 kw922 kw923 kw25 (by decide +kernel) (by decide) <| xo_zret (pc := 32) rfl dX4_jumps_32) <| xo_lload_n (pc := 10) (i := 1) dX4_jumps_10 rfl <| xo_lconst (pc := 11) dX4_jumps_11 (by decide) <| xo_lcmp (pc := 12) dX4_jumps_12 <| xo_if_ne (pc := 13) (tgt := 20) dX4_jumps_13 (by decide) (xo_iconst (pc := 20) dX4_jumps_20 (by decide) <| (s_X4_jumps_21 G l Q)) <| xo_iconst (pc := 16) dX4_jumps_16 (by decide) <| xo_goto (pc := 17) (tgt := 21) dX4_jumps_17 (by decide) <| (s_X4_jumps_21 G l Q)

def jmB (o : Nat) (k : Int) : Bool := if o = 5 then decide (k = 0) else if o = 9 then hwB k.natAbs else decide (ctF k.natAbs = k.natAbs ∧ (o ≠ 8 ∨ k ≠ 0))
def C_X4_jumps : xC := fun av S Q => ∃ (o : Nat) (k : Int), av = [.int (nI o), .long (lZ k)] ∧ 5 ≤ o ∧ o ≤ 9 ∧ bF k ∧ Q (some (.int (bI (jmB o k)))) S
theorem cM_X4_jumps (G : xG) (l : Launch) : xM G l yX4_jumps cX4_jumps 5 (some FieldType.boolean) r_X4_jumps C_X4_jumps := by
  refine xM_of (fun Q => b_X4_jumps_0 Q) RX4 false (s_X4_jumps_0 G l) (by decide) rfl (by decide) ?_
  rintro av S Q ⟨o, k, rfl, o1, o2, hk, hQ⟩
  refine ⟨Nat.le_of_ble_eq_true rfl, ?_⟩
  have ok : oF k := ⟨by have := hk.1; omega, by have := hk.2; omega⟩
  have ha : k.natAbs < 2 ^ 63 := by have := hk.1; have := hk.2; omega
  have cl := ctF_le k.natAbs
  have e5 : nI o = 5 ↔ o = 5 := nI_eq (b := 5) (by omega) (by decide)
  have e8 : nI o = 8 ↔ o = 8 := nI_eq (b := 8) (by omega) (by decide)
  have e9 : nI o = 9 ↔ o = 9 := nI_eq (b := 9) (by omega) (by decide)
  have z0 : lN (ctF k.natAbs) = lN k.natAbs ↔ ctF k.natAbs = k.natAbs := pk_lEQ (by omega) (by omega)
  have fin : ∀ t, t = jmB o k → Q (some (.int (bI t))) S := fun t ht => by rw [ht]; exact hQ
  unfold jmB at fin
  simp only [q_c, x_iload, x_lload, x_aload, q_istore, q_lstore, q_astore, q_astore2, x_iinc, q_iadd, q_isub, q_imul, q_iand, q_ior, q_ixor, q_ladd, q_lsub, q_lmul, q_land, q_lor, q_lxor, q_idiv, q_irem, q_ldiv, q_lrem, q_ineg, q_lneg, q_ishl, q_ishr, q_iushr, q_lshl, q_lshr, q_lushr, q_i2l, q_l2i, q_i2b, q_i2c, q_lcmp, q_if_eq, q_if_ne, q_if_lt, q_if_ge, q_if_gt, q_if_le, q_icmp_eq, q_icmp_ne, q_icmp_lt, q_icmp_ge, q_icmp_gt, q_icmp_le, q_dup, q_pop, q_dup_x1, q_dup2, x_iret, x_zret, x_lret, x_aret, x_vret, x_call, x_callv, x_calli, x_oinit, x_mmax, x_mmin, x_mabs, x_mmaxL, x_mminL, x_mabsL, lg_cmp_ge, lg_cmp_le, lg_cmp_gt, lg_cmp_lt, lg_cmp_eq, xlk, q_xs1, q_xs2, lv_args, Value.category, List.filter_cons, List.filter_nil, Nat.reduceAdd, Nat.reduceBEq, Nat.reduceEqDiff, Nat.reduceSub, Nat.sub_zero, beq_self_eq_true, Bool.not_true, Bool.not_false, Bool.and_true, Bool.and_false, Bool.true_and, Bool.false_and, reduceIte, reduceCtorEq, Bool.false_eq_true, Nat.one_ne_zero, Nat.zero_ne_one, Nat.zero_add, Option.toList_some, Option.toList_none, List.nil_append, List.cons_append, List.take_succ_cons, List.take_zero, List.take_nil, List.drop_succ_cons, List.drop_zero, List.length_cons, List.length_nil, List.reverse_cons, List.reverse_nil, List.head?_cons, List.map_cons, List.map_nil, List.sum_cons, List.sum_nil, true_and, and_true, List.getElem?_cons_zero, List.getElem?_cons_succ, Prod.eta, x_iast, x_bald, x_bast, x_last, x_alen, xup_s, xup_a1, xup_1a, xup_uu, nr_i, nr_l, nr_o, nr_a, ft_i, ft_l, ft_o, ft_a, Nat.reduceLT, i_cl0, i_cl1, i_n1, i_m1, List.set_cons_zero, List.set_cons_succ, Nat.reduceLeDiff, Nat.le_refl, Nat.zero_le, Nat.add_zero, x_no, x_ifnull, x_ifnonnull, x_acmp_eq, x_acmp_ne, x_swl, x_tsw, x_castC, true_or, or_true, nr_z, ft_z, nr_z0, nr_z1, ft_z0, ft_z1, nr_on, nr_an, ft_on, ft_an, b_X4_jumps_0, b_X4_jumps_21, b_X4_jumps_54, b_X4_jumps_58, b_X4_jumps_59, x_mabsL, lZ_ab ok, e5, e8, e9, lz_e0 ok]
  refine ⟨fun a => ⟨fun b => ⟨_, rfl, ha, ?_⟩, fun b => ⟨_, rfl, ha, ?_⟩⟩, fun a => ⟨fun b => fin false ?_, fun b => fin true ?_⟩⟩
  · rw [if_neg a, if_neg b] at fin
    simp only [q_c, x_iload, x_lload, x_aload, q_istore, q_lstore, q_astore, q_astore2, x_iinc, q_iadd, q_isub, q_imul, q_iand, q_ior, q_ixor, q_ladd, q_lsub, q_lmul, q_land, q_lor, q_lxor, q_idiv, q_irem, q_ldiv, q_lrem, q_ineg, q_lneg, q_ishl, q_ishr, q_iushr, q_lshl, q_lshr, q_lushr, q_i2l, q_l2i, q_i2b, q_i2c, q_lcmp, q_if_eq, q_if_ne, q_if_lt, q_if_ge, q_if_gt, q_if_le, q_icmp_eq, q_icmp_ne, q_icmp_lt, q_icmp_ge, q_icmp_gt, q_icmp_le, q_dup, q_pop, q_dup_x1, q_dup2, x_iret, x_zret, x_lret, x_aret, x_vret, x_call, x_callv, x_calli, x_oinit, x_mmax, x_mmin, x_mabs, x_mmaxL, x_mminL, x_mabsL, lg_cmp_ge, lg_cmp_le, lg_cmp_gt, lg_cmp_lt, lg_cmp_eq, xlk, q_xs1, q_xs2, lv_args, Value.category, List.filter_cons, List.filter_nil, Nat.reduceAdd, Nat.reduceBEq, Nat.reduceEqDiff, Nat.reduceSub, Nat.sub_zero, beq_self_eq_true, Bool.not_true, Bool.not_false, Bool.and_true, Bool.and_false, Bool.true_and, Bool.false_and, reduceIte, reduceCtorEq, Bool.false_eq_true, Nat.one_ne_zero, Nat.zero_ne_one, Nat.zero_add, Option.toList_some, Option.toList_none, List.nil_append, List.cons_append, List.take_succ_cons, List.take_zero, List.take_nil, List.drop_succ_cons, List.drop_zero, List.length_cons, List.length_nil, List.reverse_cons, List.reverse_nil, List.head?_cons, List.map_cons, List.map_nil, List.sum_cons, List.sum_nil, true_and, and_true, List.getElem?_cons_zero, List.getElem?_cons_succ, Prod.eta, x_iast, x_bald, x_bast, x_last, x_alen, xup_s, xup_a1, xup_1a, xup_uu, nr_i, nr_l, nr_o, nr_a, ft_i, ft_l, ft_o, ft_a, Nat.reduceLT, i_cl0, i_cl1, i_n1, i_m1, List.set_cons_zero, List.set_cons_succ, Nat.reduceLeDiff, Nat.le_refl, Nat.zero_le, Nat.add_zero, x_no, x_ifnull, x_ifnonnull, x_acmp_eq, x_acmp_ne, x_swl, x_tsw, x_castC, true_or, or_true, nr_z, ft_z, nr_z0, nr_z1, ft_z0, ft_z1, nr_on, nr_an, ft_on, ft_an, e8, lz_e0 ok, z0]
    refine ⟨fun c => fin false ?_, fun c => ⟨fun d => fin true ?_, fun d => ⟨fun e => fin false ?_, fun e => fin true ?_⟩⟩⟩
    · rw [decide_eq_false (by rintro ⟨x, _⟩; exact c x)]
    · rw [decide_eq_true ⟨c, Or.inl d⟩]
    · rw [decide_eq_false (by rintro ⟨x, y | y⟩; exact y d; exact y e)]
    · rw [decide_eq_true ⟨c, Or.inr e⟩]
  · rw [if_neg a, if_pos b] at fin
    simp only [q_c, x_iload, x_lload, x_aload, q_istore, q_lstore, q_astore, q_astore2, x_iinc, q_iadd, q_isub, q_imul, q_iand, q_ior, q_ixor, q_ladd, q_lsub, q_lmul, q_land, q_lor, q_lxor, q_idiv, q_irem, q_ldiv, q_lrem, q_ineg, q_lneg, q_ishl, q_ishr, q_iushr, q_lshl, q_lshr, q_lushr, q_i2l, q_l2i, q_i2b, q_i2c, q_lcmp, q_if_eq, q_if_ne, q_if_lt, q_if_ge, q_if_gt, q_if_le, q_icmp_eq, q_icmp_ne, q_icmp_lt, q_icmp_ge, q_icmp_gt, q_icmp_le, q_dup, q_pop, q_dup_x1, q_dup2, x_iret, x_zret, x_lret, x_aret, x_vret, x_call, x_callv, x_calli, x_oinit, x_mmax, x_mmin, x_mabs, x_mmaxL, x_mminL, x_mabsL, lg_cmp_ge, lg_cmp_le, lg_cmp_gt, lg_cmp_lt, lg_cmp_eq, xlk, q_xs1, q_xs2, lv_args, Value.category, List.filter_cons, List.filter_nil, Nat.reduceAdd, Nat.reduceBEq, Nat.reduceEqDiff, Nat.reduceSub, Nat.sub_zero, beq_self_eq_true, Bool.not_true, Bool.not_false, Bool.and_true, Bool.and_false, Bool.true_and, Bool.false_and, reduceIte, reduceCtorEq, Bool.false_eq_true, Nat.one_ne_zero, Nat.zero_ne_one, Nat.zero_add, Option.toList_some, Option.toList_none, List.nil_append, List.cons_append, List.take_succ_cons, List.take_zero, List.take_nil, List.drop_succ_cons, List.drop_zero, List.length_cons, List.length_nil, List.reverse_cons, List.reverse_nil, List.head?_cons, List.map_cons, List.map_nil, List.sum_cons, List.sum_nil, true_and, and_true, List.getElem?_cons_zero, List.getElem?_cons_succ, Prod.eta, x_iast, x_bald, x_bast, x_last, x_alen, xup_s, xup_a1, xup_1a, xup_uu, nr_i, nr_l, nr_o, nr_a, ft_i, ft_l, ft_o, ft_a, Nat.reduceLT, i_cl0, i_cl1, i_n1, i_m1, List.set_cons_zero, List.set_cons_succ, Nat.reduceLeDiff, Nat.le_refl, Nat.zero_le, Nat.add_zero, x_no, x_ifnull, x_ifnonnull, x_acmp_eq, x_acmp_ne, x_swl, x_tsw, x_castC, true_or, or_true, nr_z, ft_z, nr_z0, nr_z1, ft_z0, ft_z1, nr_on, nr_an, ft_on, ft_an, nr_z]
    exact fin _ rfl
  · rw [if_pos a, decide_eq_false b]
  · rw [if_pos a, decide_eq_true b]
theorem dX1_greatestSize_0 : decode cX1_greatestSize 0 = .ok (.aload_n 0, 1) := by decide +kernel
theorem dX1_greatestSize_1 : decode cX1_greatestSize 1 = .ok (.getfield 9, 3) := by decide +kernel
theorem dX1_greatestSize_4 : decode cX1_greatestSize 4 = .ok (.lneg, 1) := by decide +kernel
theorem dX1_greatestSize_5 : decode cX1_greatestSize 5 = .ok (.aload_n 0, 1) := by decide +kernel
theorem dX1_greatestSize_6 : decode cX1_greatestSize 6 = .ok (.getfield 15, 3) := by decide +kernel
theorem dX1_greatestSize_9 : decode cX1_greatestSize 9 = .ok (.invokestatic 22, 3) := by decide +kernel
theorem dX1_greatestSize_12 : decode cX1_greatestSize 12 = .ok (.lreturn, 1) := by decide +kernel
abbrev r_X1_greatestSize : Room := { frames := 1, cells := 0, slots := 0, locals := 23 }
abbrev m_X1_greatestSize : xMd := (cX1_greatestSize, RX1, 1, (some FieldType.long), false, r_X1_greatestSize)
def b_X1_greatestSize_0 (Q : xQ) : xK := x_aload 0 <| x_get 2 0 <| x_lneg <| x_aload 0 <| x_get 2 1 <| x_mmaxL <| x_lret Q
theorem s_X1_greatestSize_0 (G : xG) (l : Launch) (Q : xQ) : xW G l m_X1_greatestSize xX0 (xPm G Q r_X1_greatestSize) 0 (b_X1_greatestSize_0 Q) := xo_aload_n (pc := 0) (i := 0) dX1_greatestSize_0 rfl <| xo_get (pc := 1) (ci := 2) (i := 0) rfl ok2 (by decide) dX1_greatestSize_1 kw346 <| xo_lneg (pc := 4) dX1_greatestSize_4 <| xo_aload_n (pc := 5) (i := 0) dX1_greatestSize_5 rfl <| xo_get (pc := 6) (ci := 2) (i := 1) rfl ok2 (by decide) dX1_greatestSize_6 kw353 <| xo_mmaxL (pc := 9) dX1_greatestSize_9 kw825 kw826 kw17 kw827 (by decide) <| xo_lret (pc := 12) rfl dX1_greatestSize_12

def C_X1_greatestSize : xC := fun av S Q => ∃ (a : Nat) (lo hi : Int) (m : Nat) (r : List Value), av = [.ref a] ∧ clR S.1 a lo hi m r ∧ oF lo ∧ oF hi ∧ Q (some (.long (lZ (max (-lo) hi)))) S
theorem oF_neg {k : Int} (h : oF k) : oF (-k) := ⟨by have := h.2; omega, by have := h.1; omega⟩
theorem cM_X1_greatestSize (G : xG) (l : Launch) : xM G l yX1_greatestSize cX1_greatestSize 1 (some FieldType.long) r_X1_greatestSize C_X1_greatestSize := by
  refine xM_of (fun Q => b_X1_greatestSize_0 Q) RX1 false (s_X1_greatestSize_0 G l) (by decide) rfl (by decide) ?_
  rintro av ⟨h, S2⟩ Q ⟨a, lo, hi, m, r, rfl, w, hlo, hhi, hQ⟩
  dsimp only at *
  refine ⟨Nat.le_of_ble_eq_true rfl, ?_⟩
  simp only [q_c, x_iload, x_lload, x_aload, q_istore, q_lstore, q_astore, q_astore2, x_iinc, q_iadd, q_isub, q_imul, q_iand, q_ior, q_ixor, q_ladd, q_lsub, q_lmul, q_land, q_lor, q_lxor, q_idiv, q_irem, q_ldiv, q_lrem, q_ineg, q_lneg, q_ishl, q_ishr, q_iushr, q_lshl, q_lshr, q_lushr, q_i2l, q_l2i, q_i2b, q_i2c, q_lcmp, q_if_eq, q_if_ne, q_if_lt, q_if_ge, q_if_gt, q_if_le, q_icmp_eq, q_icmp_ne, q_icmp_lt, q_icmp_ge, q_icmp_gt, q_icmp_le, q_dup, q_pop, q_dup_x1, q_dup2, x_iret, x_zret, x_lret, x_aret, x_vret, x_call, x_callv, x_calli, x_oinit, x_mmax, x_mmin, x_mabs, x_mmaxL, x_mminL, x_mabsL, lg_cmp_ge, lg_cmp_le, lg_cmp_gt, lg_cmp_lt, lg_cmp_eq, xlk, q_xs1, q_xs2, lv_args, Value.category, List.filter_cons, List.filter_nil, Nat.reduceAdd, Nat.reduceBEq, Nat.reduceEqDiff, Nat.reduceSub, Nat.sub_zero, beq_self_eq_true, Bool.not_true, Bool.not_false, Bool.and_true, Bool.and_false, Bool.true_and, Bool.false_and, reduceIte, reduceCtorEq, Bool.false_eq_true, Nat.one_ne_zero, Nat.zero_ne_one, Nat.zero_add, Option.toList_some, Option.toList_none, List.nil_append, List.cons_append, List.take_succ_cons, List.take_zero, List.take_nil, List.drop_succ_cons, List.drop_zero, List.length_cons, List.length_nil, List.reverse_cons, List.reverse_nil, List.head?_cons, List.map_cons, List.map_nil, List.sum_cons, List.sum_nil, true_and, and_true, List.getElem?_cons_zero, List.getElem?_cons_succ, Prod.eta, x_iast, x_bald, x_bast, x_last, x_alen, xup_s, xup_a1, xup_1a, xup_uu, nr_i, nr_l, nr_o, nr_a, ft_i, ft_l, ft_o, ft_a, Nat.reduceLT, i_cl0, i_cl1, i_n1, i_m1, List.set_cons_zero, List.set_cons_succ, Nat.reduceLeDiff, Nat.le_refl, Nat.zero_le, Nat.add_zero, x_no, x_ifnull, x_ifnonnull, x_acmp_eq, x_acmp_ne, x_swl, x_tsw, x_castC, true_or, or_true, nr_z, ft_z, nr_z0, nr_z1, ft_z0, ft_z1, nr_on, nr_an, ft_on, ft_an, b_X1_greatestSize_0, clR.g0 w, clR.g1 w, lZ_neg, x_mmaxL, lZ_mx (oF_neg hlo) hhi]
  exact hQ
theorem dX1_leastSize_0 : decode cX1_leastSize 0 = .ok (.lconst 0, 1) := by decide +kernel
theorem dX1_leastSize_1 : decode cX1_leastSize 1 = .ok (.aload_n 0, 1) := by decide +kernel
theorem dX1_leastSize_2 : decode cX1_leastSize 2 = .ok (.getfield 9, 3) := by decide +kernel
theorem dX1_leastSize_5 : decode cX1_leastSize 5 = .ok (.aload_n 0, 1) := by decide +kernel
theorem dX1_leastSize_6 : decode cX1_leastSize 6 = .ok (.getfield 15, 3) := by decide +kernel
theorem dX1_leastSize_9 : decode cX1_leastSize 9 = .ok (.lneg, 1) := by decide +kernel
theorem dX1_leastSize_10 : decode cX1_leastSize 10 = .ok (.invokestatic 22, 3) := by decide +kernel
theorem dX1_leastSize_13 : decode cX1_leastSize 13 = .ok (.invokestatic 22, 3) := by decide +kernel
theorem dX1_leastSize_16 : decode cX1_leastSize 16 = .ok (.lreturn, 1) := by decide +kernel
abbrev r_X1_leastSize : Room := { frames := 1, cells := 0, slots := 0, locals := 23 }
abbrev m_X1_leastSize : xMd := (cX1_leastSize, RX1, 1, (some FieldType.long), false, r_X1_leastSize)
def b_X1_leastSize_0 (Q : xQ) : xK := x_c (.long 0) <| x_aload 0 <| x_get 2 0 <| x_aload 0 <| x_get 2 1 <| x_lneg <| x_mmaxL <| x_mmaxL <| x_lret Q
theorem s_X1_leastSize_0 (G : xG) (l : Launch) (Q : xQ) : xW G l m_X1_leastSize xX0 (xPm G Q r_X1_leastSize) 0 (b_X1_leastSize_0 Q) := xo_lconst (pc := 0) dX1_leastSize_0 (by decide) <| xo_aload_n (pc := 1) (i := 0) dX1_leastSize_1 rfl <| xo_get (pc := 2) (ci := 2) (i := 0) rfl ok2 (by decide) dX1_leastSize_2 kw346 <| xo_aload_n (pc := 5) (i := 0) dX1_leastSize_5 rfl <| xo_get (pc := 6) (ci := 2) (i := 1) rfl ok2 (by decide) dX1_leastSize_6 kw353 <| xo_lneg (pc := 9) dX1_leastSize_9 <| xo_mmaxL (pc := 10) dX1_leastSize_10 kw825 kw826 kw17 kw827 (by decide) <| xo_mmaxL (pc := 13) dX1_leastSize_13 kw825 kw826 kw17 kw827 (by decide) <| xo_lret (pc := 16) rfl dX1_leastSize_16

def C_X1_leastSize : xC := fun av S Q => ∃ (a : Nat) (lo hi : Int) (m : Nat) (r : List Value), av = [.ref a] ∧ clR S.1 a lo hi m r ∧ oF lo ∧ oF hi ∧ Q (some (.long (lZ (max 0 (max lo (-hi)))))) S
theorem cM_X1_leastSize (G : xG) (l : Launch) : xM G l yX1_leastSize cX1_leastSize 1 (some FieldType.long) r_X1_leastSize C_X1_leastSize := by
  refine xM_of (fun Q => b_X1_leastSize_0 Q) RX1 false (s_X1_leastSize_0 G l) (by decide) rfl (by decide) ?_
  rintro av ⟨h, S2⟩ Q ⟨a, lo, hi, m, r, rfl, w, hlo, hhi, hQ⟩
  dsimp only at *
  refine ⟨Nat.le_of_ble_eq_true rfl, ?_⟩
  have om : oF (max lo (-hi)) := by
    rcases Int.le_total lo (-hi) with c | c
    · rw [Int.max_eq_right c]; exact oF_neg hhi
    · rw [Int.max_eq_left c]; exact hlo
  simp only [q_c, x_iload, x_lload, x_aload, q_istore, q_lstore, q_astore, q_astore2, x_iinc, q_iadd, q_isub, q_imul, q_iand, q_ior, q_ixor, q_ladd, q_lsub, q_lmul, q_land, q_lor, q_lxor, q_idiv, q_irem, q_ldiv, q_lrem, q_ineg, q_lneg, q_ishl, q_ishr, q_iushr, q_lshl, q_lshr, q_lushr, q_i2l, q_l2i, q_i2b, q_i2c, q_lcmp, q_if_eq, q_if_ne, q_if_lt, q_if_ge, q_if_gt, q_if_le, q_icmp_eq, q_icmp_ne, q_icmp_lt, q_icmp_ge, q_icmp_gt, q_icmp_le, q_dup, q_pop, q_dup_x1, q_dup2, x_iret, x_zret, x_lret, x_aret, x_vret, x_call, x_callv, x_calli, x_oinit, x_mmax, x_mmin, x_mabs, x_mmaxL, x_mminL, x_mabsL, lg_cmp_ge, lg_cmp_le, lg_cmp_gt, lg_cmp_lt, lg_cmp_eq, xlk, q_xs1, q_xs2, lv_args, Value.category, List.filter_cons, List.filter_nil, Nat.reduceAdd, Nat.reduceBEq, Nat.reduceEqDiff, Nat.reduceSub, Nat.sub_zero, beq_self_eq_true, Bool.not_true, Bool.not_false, Bool.and_true, Bool.and_false, Bool.true_and, Bool.false_and, reduceIte, reduceCtorEq, Bool.false_eq_true, Nat.one_ne_zero, Nat.zero_ne_one, Nat.zero_add, Option.toList_some, Option.toList_none, List.nil_append, List.cons_append, List.take_succ_cons, List.take_zero, List.take_nil, List.drop_succ_cons, List.drop_zero, List.length_cons, List.length_nil, List.reverse_cons, List.reverse_nil, List.head?_cons, List.map_cons, List.map_nil, List.sum_cons, List.sum_nil, true_and, and_true, List.getElem?_cons_zero, List.getElem?_cons_succ, Prod.eta, x_iast, x_bald, x_bast, x_last, x_alen, xup_s, xup_a1, xup_1a, xup_uu, nr_i, nr_l, nr_o, nr_a, ft_i, ft_l, ft_o, ft_a, Nat.reduceLT, i_cl0, i_cl1, i_n1, i_m1, List.set_cons_zero, List.set_cons_succ, Nat.reduceLeDiff, Nat.le_refl, Nat.zero_le, Nat.add_zero, x_no, x_ifnull, x_ifnonnull, x_acmp_eq, x_acmp_ne, x_swl, x_tsw, x_castC, true_or, or_true, nr_z, ft_z, nr_z0, nr_z1, ft_z0, ft_z1, nr_on, nr_an, ft_on, ft_an, b_X1_leastSize_0, clR.g0 w, clR.g1 w, lZ_neg, x_mmaxL, lZ_mx hlo (oF_neg hhi)]
  rw [lZ0, lZ_mx oF0 om]
  exact hQ
theorem lZmI : (-9218868437227405312 : Int64) = lZ (-9218868437227405312) := by decide
theorem lZpI : (9218868437227405312 : Int64) = lZ 9218868437227405312 := by decide
abbrev rcc (h : xH) (a : Nat) : Prop := ∃ b fs, some (Value.ref a) = some (.ref b) ∧ h b = some (.inr (2, fs))
section KC
variable {h : xH} {a : Nat} {lo hi : Int} {m : Nat} {r : List Value} {T : Nat × Nat × Nat} {K : xQ}
theorem kc_emp (w : clR h a lo hi m r) (hlo : oF lo) (hhi : oF hi) (c : K (some (.int (bI (eC lo hi)))) (h, T)) : rcc h a ∧ C_X1_isEmpty [.ref a] (h, T) K := ⟨⟨_, _, rfl, w.1⟩, a, lo, hi, m, r, rfl, w, hlo, hhi, c⟩
theorem kc_bnd (w : clR h a lo hi m r) (hlo : oF lo) (hhi : oF hi) (c : K (some (.int (bI (bC lo hi)))) (h, T)) : rcc h a ∧ C_X1_isBounded [.ref a] (h, T) K := ⟨⟨_, _, rfl, w.1⟩, a, lo, hi, m, r, rfl, w, hlo, hhi, c⟩
theorem kc_zer (w : clR h a lo hi m r) (hlo : oF lo) (hhi : oF hi) (c : K (some (.int (bI (zC lo hi)))) (h, T)) : rcc h a ∧ C_X1_hasZero [.ref a] (h, T) K := ⟨⟨_, _, rfl, w.1⟩, a, lo, hi, m, r, rfl, w, hlo, hhi, c⟩
theorem kc_gre (w : clR h a lo hi m r) (hlo : oF lo) (hhi : oF hi) (c : K (some (.long (lZ (max (-lo) hi)))) (h, T)) : rcc h a ∧ C_X1_greatestSize [.ref a] (h, T) K := ⟨⟨_, _, rfl, w.1⟩, a, lo, hi, m, r, rfl, w, hlo, hhi, c⟩
theorem kc_lea (w : clR h a lo hi m r) (hlo : oF lo) (hhi : oF hi) (c : K (some (.long (lZ (max 0 (max lo (-hi)))))) (h, T)) : rcc h a ∧ C_X1_leastSize [.ref a] (h, T) K := ⟨⟨_, _, rfl, w.1⟩, a, lo, hi, m, r, rfl, w, hlo, hhi, c⟩
theorem kc_str (w : clR h a lo hi m r) (hlo : oF lo) (hhi : oF hi) (c : K (some (.int (nI (sC lo hi)))) (h, T)) : rcc h a ∧ C_X1_strongest [.ref a] (h, T) K := ⟨⟨_, _, rfl, w.1⟩, a, lo, hi, m, r, rfl, w, hlo, hhi, c⟩
end KC
theorem dX1_isSuch_0 : decode cX1_isSuch 0 = .ok (.aload_n 0, 1) := by decide +kernel
theorem dX1_isSuch_1 : decode cX1_isSuch 1 = .ok (.getfield 35, 3) := by decide +kernel
theorem dX1_isSuch_4 : decode cX1_isSuch 4 = .ok (.ifCond .ne 14, 3) := by decide +kernel
theorem dX1_isSuch_7 : decode cX1_isSuch 7 = .ok (.iload_n 1, 1) := by decide +kernel
theorem dX1_isSuch_8 : decode cX1_isSuch 8 = .ok (.iconst 2, 1) := by decide +kernel
theorem dX1_isSuch_9 : decode cX1_isSuch 9 = .ok (.if_icmp .ne 7, 3) := by decide +kernel
theorem dX1_isSuch_12 : decode cX1_isSuch 12 = .ok (.iconst 1, 1) := by decide +kernel
theorem dX1_isSuch_13 : decode cX1_isSuch 13 = .ok (.goto 4, 3) := by decide +kernel
theorem dX1_isSuch_16 : decode cX1_isSuch 16 = .ok (.iconst 0, 1) := by decide +kernel
theorem dX1_isSuch_17 : decode cX1_isSuch 17 = .ok (.ireturn, 1) := by decide +kernel
theorem dX1_isSuch_18 : decode cX1_isSuch 18 = .ok (.iload_n 1, 1) := by decide +kernel
theorem dX1_isSuch_19 : decode cX1_isSuch 19 = .ok (.tableswitch 104 0 4 #[33, 38, 104, 66, 86], 33) := by decide +kernel
theorem dX1_isSuch_52 : decode cX1_isSuch 52 = .ok (.aload_n 0, 1) := by decide +kernel
theorem dX1_isSuch_53 : decode cX1_isSuch 53 = .ok (.invokevirtual 28, 3) := by decide +kernel
theorem dX1_isSuch_56 : decode cX1_isSuch 56 = .ok (.ireturn, 1) := by decide +kernel
theorem dX1_isSuch_57 : decode cX1_isSuch 57 = .ok (.aload_n 0, 1) := by decide +kernel
theorem dX1_isSuch_58 : decode cX1_isSuch 58 = .ok (.getfield 9, 3) := by decide +kernel
theorem dX1_isSuch_61 : decode cX1_isSuch 61 = .ok (.ldc2_w 18, 3) := by decide +kernel
theorem dX1_isSuch_64 : decode cX1_isSuch 64 = .ok (.lcmp, 1) := by decide +kernel
theorem dX1_isSuch_65 : decode cX1_isSuch 65 = .ok (.ifCond .ne 18, 3) := by decide +kernel
theorem dX1_isSuch_68 : decode cX1_isSuch 68 = .ok (.aload_n 0, 1) := by decide +kernel
theorem dX1_isSuch_69 : decode cX1_isSuch 69 = .ok (.getfield 15, 3) := by decide +kernel
theorem dX1_isSuch_72 : decode cX1_isSuch 72 = .ok (.ldc2_w 20, 3) := by decide +kernel
theorem dX1_isSuch_75 : decode cX1_isSuch 75 = .ok (.lcmp, 1) := by decide +kernel
theorem dX1_isSuch_76 : decode cX1_isSuch 76 = .ok (.ifCond .ne 7, 3) := by decide +kernel
theorem dX1_isSuch_79 : decode cX1_isSuch 79 = .ok (.iconst 1, 1) := by decide +kernel
theorem dX1_isSuch_80 : decode cX1_isSuch 80 = .ok (.goto 4, 3) := by decide +kernel
theorem dX1_isSuch_83 : decode cX1_isSuch 83 = .ok (.iconst 0, 1) := by decide +kernel
theorem dX1_isSuch_84 : decode cX1_isSuch 84 = .ok (.ireturn, 1) := by decide +kernel
theorem dX1_isSuch_85 : decode cX1_isSuch 85 = .ok (.aload_n 0, 1) := by decide +kernel
theorem dX1_isSuch_86 : decode cX1_isSuch 86 = .ok (.invokevirtual 28, 3) := by decide +kernel
theorem dX1_isSuch_89 : decode cX1_isSuch 89 = .ok (.ifCond .ne 14, 3) := by decide +kernel
theorem dX1_isSuch_92 : decode cX1_isSuch 92 = .ok (.aload_n 0, 1) := by decide +kernel
theorem dX1_isSuch_93 : decode cX1_isSuch 93 = .ok (.invokevirtual 32, 3) := by decide +kernel
theorem dX1_isSuch_96 : decode cX1_isSuch 96 = .ok (.ifCond .eq 7, 3) := by decide +kernel
theorem dX1_isSuch_99 : decode cX1_isSuch 99 = .ok (.iconst 1, 1) := by decide +kernel
theorem dX1_isSuch_100 : decode cX1_isSuch 100 = .ok (.goto 4, 3) := by decide +kernel
theorem dX1_isSuch_103 : decode cX1_isSuch 103 = .ok (.iconst 0, 1) := by decide +kernel
theorem dX1_isSuch_104 : decode cX1_isSuch 104 = .ok (.ireturn, 1) := by decide +kernel
theorem dX1_isSuch_105 : decode cX1_isSuch 105 = .ok (.aload_n 0, 1) := by decide +kernel
theorem dX1_isSuch_106 : decode cX1_isSuch 106 = .ok (.getfield 9, 3) := by decide +kernel
theorem dX1_isSuch_109 : decode cX1_isSuch 109 = .ok (.aload_n 0, 1) := by decide +kernel
theorem dX1_isSuch_110 : decode cX1_isSuch 110 = .ok (.getfield 15, 3) := by decide +kernel
theorem dX1_isSuch_113 : decode cX1_isSuch 113 = .ok (.lcmp, 1) := by decide +kernel
theorem dX1_isSuch_114 : decode cX1_isSuch 114 = .ok (.ifCond .ne 7, 3) := by decide +kernel
theorem dX1_isSuch_117 : decode cX1_isSuch 117 = .ok (.iconst 1, 1) := by decide +kernel
theorem dX1_isSuch_118 : decode cX1_isSuch 118 = .ok (.goto 4, 3) := by decide +kernel
theorem dX1_isSuch_121 : decode cX1_isSuch 121 = .ok (.iconst 0, 1) := by decide +kernel
theorem dX1_isSuch_122 : decode cX1_isSuch 122 = .ok (.ireturn, 1) := by decide +kernel
theorem dX1_isSuch_123 : decode cX1_isSuch 123 = .ok (.iconst 0, 1) := by decide +kernel
theorem dX1_isSuch_124 : decode cX1_isSuch 124 = .ok (.ireturn, 1) := by decide +kernel
abbrev r_X1_isSuch : Room := { frames := 1, cells := 0, slots := 0, locals := 20 }
abbrev m_X1_isSuch : xMd := (cX1_isSuch, RX1, 2, (some FieldType.boolean), false, r_X1_isSuch)
def b_X1_isSuch_17 (Q : xQ) : xK := x_zret FieldType.boolean Q
def b_X1_isSuch_84 (Q : xQ) : xK := x_zret FieldType.boolean Q
def b_X1_isSuch_104 (Q : xQ) : xK := x_zret FieldType.boolean Q
def b_X1_isSuch_122 (Q : xQ) : xK := x_zret FieldType.boolean Q
def b_X1_isSuch_123 (Q : xQ) : xK := x_c (.int 0) <| x_zret FieldType.boolean Q
def b_X1_isSuch_83 (Q : xQ) : xK := x_c (.int 0) <| (b_X1_isSuch_84 Q)
def b_X1_isSuch_103 (Q : xQ) : xK := x_c (.int 0) <| (b_X1_isSuch_104 Q)
def b_X1_isSuch_0 (Q : xQ) : xK := x_aload 0 <| x_get 2 2 <| x_if_ne (x_iload 1 <| x_tsw 0 4 [x_aload 0 <| x_callv 2 C_X1_isEmpty 1 0 0 <| x_zret FieldType.boolean Q, x_aload 0 <| x_get 2 0 <| x_c (.long (-9218868437227405312)) <| x_lcmp <| x_if_ne ((b_X1_isSuch_83 Q)) <| x_aload 0 <| x_get 2 1 <| x_c (.long 9218868437227405312) <| x_lcmp <| x_if_ne ((b_X1_isSuch_83 Q)) <| x_c (.int 1) <| (b_X1_isSuch_84 Q), (b_X1_isSuch_123 Q), x_aload 0 <| x_callv 2 C_X1_isEmpty 1 0 0 <| x_if_ne ((b_X1_isSuch_103 Q)) <| x_aload 0 <| x_callv 2 C_X1_isBounded 1 0 0 <| x_if_eq ((b_X1_isSuch_103 Q)) <| x_c (.int 1) <| (b_X1_isSuch_104 Q), x_aload 0 <| x_get 2 0 <| x_aload 0 <| x_get 2 1 <| x_lcmp <| x_if_ne (x_c (.int 0) <| (b_X1_isSuch_122 Q)) <| x_c (.int 1) <| (b_X1_isSuch_122 Q)] <| (b_X1_isSuch_123 Q)) <| x_iload 1 <| x_c (.int 2) <| x_icmp_ne (x_c (.int 0) <| (b_X1_isSuch_17 Q)) <| x_c (.int 1) <| (b_X1_isSuch_17 Q)
theorem s_X1_isSuch_17 (G : xG) (l : Launch) (Q : xQ) : xW G l m_X1_isSuch xX0 (xPm G Q r_X1_isSuch) 17 (b_X1_isSuch_17 Q) := xo_zret (pc := 17) rfl dX1_isSuch_17
theorem s_X1_isSuch_84 (G : xG) (l : Launch) (Q : xQ) : xW G l m_X1_isSuch xX0 (xPm G Q r_X1_isSuch) 84 (b_X1_isSuch_84 Q) := xo_zret (pc := 84) rfl dX1_isSuch_84
theorem s_X1_isSuch_104 (G : xG) (l : Launch) (Q : xQ) : xW G l m_X1_isSuch xX0 (xPm G Q r_X1_isSuch) 104 (b_X1_isSuch_104 Q) := xo_zret (pc := 104) rfl dX1_isSuch_104
theorem s_X1_isSuch_122 (G : xG) (l : Launch) (Q : xQ) : xW G l m_X1_isSuch xX0 (xPm G Q r_X1_isSuch) 122 (b_X1_isSuch_122 Q) := xo_zret (pc := 122) rfl dX1_isSuch_122
theorem s_X1_isSuch_123 (G : xG) (l : Launch) (Q : xQ) : xW G l m_X1_isSuch xX0 (xPm G Q r_X1_isSuch) 123 (b_X1_isSuch_123 Q) := xo_iconst (pc := 123) dX1_isSuch_123 (by decide) <| xo_zret (pc := 124) rfl dX1_isSuch_124
theorem s_X1_isSuch_83 (G : xG) (l : Launch) (Q : xQ) : xW G l m_X1_isSuch xX0 (xPm G Q r_X1_isSuch) 83 (b_X1_isSuch_83 Q) := xo_iconst (pc := 83) dX1_isSuch_83 (by decide) <| (s_X1_isSuch_84 G l Q)
theorem s_X1_isSuch_103 (G : xG) (l : Launch) (Q : xQ) : xW G l m_X1_isSuch xX0 (xPm G Q r_X1_isSuch) 103 (b_X1_isSuch_103 Q) := xo_iconst (pc := 103) dX1_isSuch_103 (by decide) <| (s_X1_isSuch_104 G l Q)
theorem s_X1_isSuch_0 (G : xG) (l : Launch) (Q : xQ) : xW G l m_X1_isSuch xX0 (xPm G Q r_X1_isSuch) 0 (b_X1_isSuch_0 Q) := xo_aload_n (pc := 0) (i := 0) dX1_isSuch_0 rfl <| xo_get (pc := 1) (ci := 2) (i := 2) rfl ok2 (by decide) dX1_isSuch_1 kw363 <| xo_if_ne (pc := 4) (tgt := 18) dX1_isSuch_4 (by decide) (xo_iload_n (pc := 18) (i := 1) dX1_isSuch_18 rfl <| xo_tsw (pc := 19) (tgt := 123) dX1_isSuch_19 (by decide) rfl ((s_X1_isSuch_123 G l Q)) (xtsw_c (t := 52) (by decide) (xo_aload_n (pc := 52) (i := 0) dX1_isSuch_52 rfl <| xo_callV (pc := 53) (np := 0) (ci := 2) rfl (cM_X1_isEmpty G l) dX1_isSuch_53 kw707 kw704 kw705 kw706 kw19 (by decide +kernel) (by decide) <| xo_zret (pc := 56) rfl dX1_isSuch_56) (xtsw_c (t := 57) (by decide) (xo_aload_n (pc := 57) (i := 0) dX1_isSuch_57 rfl <| xo_get (pc := 58) (ci := 2) (i := 0) rfl ok2 (by decide) dX1_isSuch_58 kw346 <| xo_ldc2_w (pc := 61) dX1_isSuch_61 kw712 <| xo_lcmp (pc := 64) dX1_isSuch_64 <| xo_if_ne (pc := 65) (tgt := 83) dX1_isSuch_65 (by decide) ((s_X1_isSuch_83 G l Q)) <| xo_aload_n (pc := 68) (i := 0) dX1_isSuch_68 rfl <| xo_get (pc := 69) (ci := 2) (i := 1) rfl ok2 (by decide) dX1_isSuch_69 kw353 <| xo_ldc2_w (pc := 72) dX1_isSuch_72 kw713 <| xo_lcmp (pc := 75) dX1_isSuch_75 <| xo_if_ne (pc := 76) (tgt := 83) dX1_isSuch_76 (by decide) ((s_X1_isSuch_83 G l Q)) <| xo_iconst (pc := 79) dX1_isSuch_79 (by decide) <| xo_goto (pc := 80) (tgt := 84) dX1_isSuch_80 (by decide) <| (s_X1_isSuch_84 G l Q)) (xtsw_c (t := 123) (by decide) ((s_X1_isSuch_123 G l Q)) (xtsw_c (t := 85) (by decide) (xo_aload_n (pc := 85) (i := 0) dX1_isSuch_85 rfl <| xo_callV (pc := 86) (np := 0) (ci := 2) rfl (cM_X1_isEmpty G l) dX1_isSuch_86 kw707 kw704 kw705 kw706 kw19 (by decide +kernel) (by decide) <| xo_if_ne (pc := 89) (tgt := 103) dX1_isSuch_89 (by decide) ((s_X1_isSuch_103 G l Q)) <| xo_aload_n (pc := 92) (i := 0) dX1_isSuch_92 rfl <| xo_callV (pc := 93) (np := 0) (ci := 2) rfl (cM_X1_isBounded G l) dX1_isSuch_93 kw711 kw708 kw709 kw710 kw19 (by decide +kernel) (by decide) <| xo_if_eq (pc := 96) (tgt := 103) dX1_isSuch_96 (by decide) ((s_X1_isSuch_103 G l Q)) <| xo_iconst (pc := 99) dX1_isSuch_99 (by decide) <| xo_goto (pc := 100) (tgt := 104) dX1_isSuch_100 (by decide) <| (s_X1_isSuch_104 G l Q)) (xtsw_c (t := 105) (by decide) (xo_aload_n (pc := 105) (i := 0) dX1_isSuch_105 rfl <| xo_get (pc := 106) (ci := 2) (i := 0) rfl ok2 (by decide) dX1_isSuch_106 kw346 <| xo_aload_n (pc := 109) (i := 0) dX1_isSuch_109 rfl <| xo_get (pc := 110) (ci := 2) (i := 1) rfl ok2 (by decide) dX1_isSuch_110 kw353 <| xo_lcmp (pc := 113) dX1_isSuch_113 <| xo_if_ne (pc := 114) (tgt := 121) dX1_isSuch_114 (by decide) (xo_iconst (pc := 121) dX1_isSuch_121 (by decide) <| (s_X1_isSuch_122 G l Q)) <| xo_iconst (pc := 117) dX1_isSuch_117 (by decide) <| xo_goto (pc := 118) (tgt := 122) dX1_isSuch_118 (by decide) <| (s_X1_isSuch_122 G l Q)) xtsw_n)))))) <| xo_iload_n (pc := 7) (i := 1) dX1_isSuch_7 rfl <| xo_iconst (pc := 8) dX1_isSuch_8 (by decide) <| xo_icmp_ne (pc := 9) (tgt := 16) dX1_isSuch_9 (by decide) (xo_iconst (pc := 16) dX1_isSuch_16 (by decide) <| (s_X1_isSuch_17 G l Q)) <| xo_iconst (pc := 12) dX1_isSuch_12 (by decide) <| xo_goto (pc := 13) (tgt := 17) dX1_isSuch_13 (by decide) <| (s_X1_isSuch_17 G l Q)

def suB (k : Nat) (lo hi : Int) (m : Nat) : Bool := if m = 0 then decide (k = 2) else if k = 0 then eC lo hi else if k = 1 then decide (lo = -9218868437227405312 ∧ hi = 9218868437227405312) else if k = 3 then !eC lo hi && bC lo hi else if k = 4 then decide (lo = hi) else false
def C_X1_isSuch : xC := fun av S Q => ∃ (a : Nat) (lo hi : Int) (m k : Nat) (r : List Value), av = [.ref a, .int (nI k)] ∧ clR S.1 a lo hi m r ∧ m ≤ 4 ∧ k ≤ 4 ∧ oF lo ∧ oF hi ∧ Q (some (.int (bI (suB k lo hi m)))) S
theorem cM_X1_isSuch (G : xG) (l : Launch) : xM G l yX1_isSuch cX1_isSuch 2 (some FieldType.boolean) r_X1_isSuch C_X1_isSuch := by
  refine xM_of (fun Q => b_X1_isSuch_0 Q) RX1 false (s_X1_isSuch_0 G l) (by decide) rfl (by decide) ?_
  rintro av ⟨h, S2⟩ Q ⟨a, lo, hi, m, k, r, rfl, w, hm, hk, hlo, hhi, hQ⟩
  dsimp only at *
  refine ⟨Nat.le_of_ble_eq_true rfl, ?_⟩
  have m0 : nI m = 0 ↔ m = 0 := nI_eq (b := 0) (by omega) (by decide)
  have k2 : nI k = 2 ↔ k = 2 := nI_eq (b := 2) (by omega) (by decide)
  have t : (nI k).toInt = (k : Int) := nI_toInt (by omega)
  have i1 : lZ lo = -9218868437227405312 ↔ lo = -9218868437227405312 := by rw [lZmI]; exact lZ_inj hlo ⟨by decide, by decide⟩
  have i2 : lZ hi = 9218868437227405312 ↔ hi = 9218868437227405312 := by rw [lZpI]; exact lZ_inj hhi ⟨by decide, by decide⟩
  have fin : ∀ t, t = suB k lo hi m → Q (some (.int (bI t))) (h, S2) := fun t ht => by rw [ht]; exact hQ
  unfold suB at fin
  simp only [q_c, x_iload, x_lload, x_aload, q_istore, q_lstore, q_astore, q_astore2, x_iinc, q_iadd, q_isub, q_imul, q_iand, q_ior, q_ixor, q_ladd, q_lsub, q_lmul, q_land, q_lor, q_lxor, q_idiv, q_irem, q_ldiv, q_lrem, q_ineg, q_lneg, q_ishl, q_ishr, q_iushr, q_lshl, q_lshr, q_lushr, q_i2l, q_l2i, q_i2b, q_i2c, q_lcmp, q_if_eq, q_if_ne, q_if_lt, q_if_ge, q_if_gt, q_if_le, q_icmp_eq, q_icmp_ne, q_icmp_lt, q_icmp_ge, q_icmp_gt, q_icmp_le, q_dup, q_pop, q_dup_x1, q_dup2, x_iret, x_zret, x_lret, x_aret, x_vret, x_call, x_callv, x_calli, x_oinit, x_mmax, x_mmin, x_mabs, x_mmaxL, x_mminL, x_mabsL, lg_cmp_ge, lg_cmp_le, lg_cmp_gt, lg_cmp_lt, lg_cmp_eq, xlk, q_xs1, q_xs2, lv_args, Value.category, List.filter_cons, List.filter_nil, Nat.reduceAdd, Nat.reduceBEq, Nat.reduceEqDiff, Nat.reduceSub, Nat.sub_zero, beq_self_eq_true, Bool.not_true, Bool.not_false, Bool.and_true, Bool.and_false, Bool.true_and, Bool.false_and, reduceIte, reduceCtorEq, Bool.false_eq_true, Nat.one_ne_zero, Nat.zero_ne_one, Nat.zero_add, Option.toList_some, Option.toList_none, List.nil_append, List.cons_append, List.take_succ_cons, List.take_zero, List.take_nil, List.drop_succ_cons, List.drop_zero, List.length_cons, List.length_nil, List.reverse_cons, List.reverse_nil, List.head?_cons, List.map_cons, List.map_nil, List.sum_cons, List.sum_nil, true_and, and_true, List.getElem?_cons_zero, List.getElem?_cons_succ, Prod.eta, x_iast, x_bald, x_bast, x_last, x_alen, xup_s, xup_a1, xup_1a, xup_uu, nr_i, nr_l, nr_o, nr_a, ft_i, ft_l, ft_o, ft_a, Nat.reduceLT, i_cl0, i_cl1, i_n1, i_m1, List.set_cons_zero, List.set_cons_succ, Nat.reduceLeDiff, Nat.le_refl, Nat.zero_le, Nat.add_zero, x_no, x_ifnull, x_ifnonnull, x_acmp_eq, x_acmp_ne, x_swl, x_tsw, x_castC, true_or, or_true, nr_z, ft_z, nr_z0, nr_z1, ft_z0, ft_z1, nr_on, nr_an, ft_on, ft_an, b_X1_isSuch_0, b_X1_isSuch_17, b_X1_isSuch_83, b_X1_isSuch_84, b_X1_isSuch_103, b_X1_isSuch_104, b_X1_isSuch_122, b_X1_isSuch_123, clR.g0 w, clR.g1 w, clR.g2 w, m0, k2, x_tsw, x_swl, t, i1, i2, lZ_inj hlo hhi]
  refine ⟨fun c => ⟨⟨fun d => kc_emp w hlo hhi ?_, fun d => ⟨fun x => fin false ?_, fun x => ⟨fun y => fin false ?_, fun y => fin true ?_⟩⟩, fun d => fin false ?_, fun d => kc_emp w hlo hhi ?_, fun d => ⟨fun x => fin false ?_, fun x => fin true ?_⟩⟩, fun d => fin false ?_⟩, fun c => ⟨fun d => fin false ?_, fun d => fin true ?_⟩⟩
  · simp only [q_c, x_iload, x_lload, x_aload, q_istore, q_lstore, q_astore, q_astore2, x_iinc, q_iadd, q_isub, q_imul, q_iand, q_ior, q_ixor, q_ladd, q_lsub, q_lmul, q_land, q_lor, q_lxor, q_idiv, q_irem, q_ldiv, q_lrem, q_ineg, q_lneg, q_ishl, q_ishr, q_iushr, q_lshl, q_lshr, q_lushr, q_i2l, q_l2i, q_i2b, q_i2c, q_lcmp, q_if_eq, q_if_ne, q_if_lt, q_if_ge, q_if_gt, q_if_le, q_icmp_eq, q_icmp_ne, q_icmp_lt, q_icmp_ge, q_icmp_gt, q_icmp_le, q_dup, q_pop, q_dup_x1, q_dup2, x_iret, x_zret, x_lret, x_aret, x_vret, x_call, x_callv, x_calli, x_oinit, x_mmax, x_mmin, x_mabs, x_mmaxL, x_mminL, x_mabsL, lg_cmp_ge, lg_cmp_le, lg_cmp_gt, lg_cmp_lt, lg_cmp_eq, xlk, q_xs1, q_xs2, lv_args, Value.category, List.filter_cons, List.filter_nil, Nat.reduceAdd, Nat.reduceBEq, Nat.reduceEqDiff, Nat.reduceSub, Nat.sub_zero, beq_self_eq_true, Bool.not_true, Bool.not_false, Bool.and_true, Bool.and_false, Bool.true_and, Bool.false_and, reduceIte, reduceCtorEq, Bool.false_eq_true, Nat.one_ne_zero, Nat.zero_ne_one, Nat.zero_add, Option.toList_some, Option.toList_none, List.nil_append, List.cons_append, List.take_succ_cons, List.take_zero, List.take_nil, List.drop_succ_cons, List.drop_zero, List.length_cons, List.length_nil, List.reverse_cons, List.reverse_nil, List.head?_cons, List.map_cons, List.map_nil, List.sum_cons, List.sum_nil, true_and, and_true, List.getElem?_cons_zero, List.getElem?_cons_succ, Prod.eta, x_iast, x_bald, x_bast, x_last, x_alen, xup_s, xup_a1, xup_1a, xup_uu, nr_i, nr_l, nr_o, nr_a, ft_i, ft_l, ft_o, ft_a, Nat.reduceLT, i_cl0, i_cl1, i_n1, i_m1, List.set_cons_zero, List.set_cons_succ, Nat.reduceLeDiff, Nat.le_refl, Nat.zero_le, Nat.add_zero, x_no, x_ifnull, x_ifnonnull, x_acmp_eq, x_acmp_ne, x_swl, x_tsw, x_castC, true_or, or_true, nr_z, ft_z, nr_z0, nr_z1, ft_z0, ft_z1, nr_on, nr_an, ft_on, ft_an, nr_z]
    exact fin _ (by rw [if_neg c, if_pos (by omega)])
  · rw [if_neg c, if_neg (by omega), if_pos (by omega), decide_eq_false (fun z => x z.1)]
  · rw [if_neg c, if_neg (by omega), if_pos (by omega), decide_eq_false (fun z => y z.2)]
  · rw [if_neg c, if_neg (by omega), if_pos (by omega), decide_eq_true ⟨x, y⟩]
  · rw [if_neg c, if_neg (by omega), if_neg (by omega), if_neg (by omega), if_neg (by omega)]
  · rw [if_neg c, if_neg (by omega), if_neg (by omega), if_pos (by omega)] at fin
    simp only [q_c, x_iload, x_lload, x_aload, q_istore, q_lstore, q_astore, q_astore2, x_iinc, q_iadd, q_isub, q_imul, q_iand, q_ior, q_ixor, q_ladd, q_lsub, q_lmul, q_land, q_lor, q_lxor, q_idiv, q_irem, q_ldiv, q_lrem, q_ineg, q_lneg, q_ishl, q_ishr, q_iushr, q_lshl, q_lshr, q_lushr, q_i2l, q_l2i, q_i2b, q_i2c, q_lcmp, q_if_eq, q_if_ne, q_if_lt, q_if_ge, q_if_gt, q_if_le, q_icmp_eq, q_icmp_ne, q_icmp_lt, q_icmp_ge, q_icmp_gt, q_icmp_le, q_dup, q_pop, q_dup_x1, q_dup2, x_iret, x_zret, x_lret, x_aret, x_vret, x_call, x_callv, x_calli, x_oinit, x_mmax, x_mmin, x_mabs, x_mmaxL, x_mminL, x_mabsL, lg_cmp_ge, lg_cmp_le, lg_cmp_gt, lg_cmp_lt, lg_cmp_eq, xlk, q_xs1, q_xs2, lv_args, Value.category, List.filter_cons, List.filter_nil, Nat.reduceAdd, Nat.reduceBEq, Nat.reduceEqDiff, Nat.reduceSub, Nat.sub_zero, beq_self_eq_true, Bool.not_true, Bool.not_false, Bool.and_true, Bool.and_false, Bool.true_and, Bool.false_and, reduceIte, reduceCtorEq, Bool.false_eq_true, Nat.one_ne_zero, Nat.zero_ne_one, Nat.zero_add, Option.toList_some, Option.toList_none, List.nil_append, List.cons_append, List.take_succ_cons, List.take_zero, List.take_nil, List.drop_succ_cons, List.drop_zero, List.length_cons, List.length_nil, List.reverse_cons, List.reverse_nil, List.head?_cons, List.map_cons, List.map_nil, List.sum_cons, List.sum_nil, true_and, and_true, List.getElem?_cons_zero, List.getElem?_cons_succ, Prod.eta, x_iast, x_bald, x_bast, x_last, x_alen, xup_s, xup_a1, xup_1a, xup_uu, nr_i, nr_l, nr_o, nr_a, ft_i, ft_l, ft_o, ft_a, Nat.reduceLT, i_cl0, i_cl1, i_n1, i_m1, List.set_cons_zero, List.set_cons_succ, Nat.reduceLeDiff, Nat.le_refl, Nat.zero_le, Nat.add_zero, x_no, x_ifnull, x_ifnonnull, x_acmp_eq, x_acmp_ne, x_swl, x_tsw, x_castC, true_or, or_true, nr_z, ft_z, nr_z0, nr_z1, ft_z0, ft_z1, nr_on, nr_an, ft_on, ft_an, bI_e0]
    refine ⟨fun x => fin false ?_, fun x => kc_bnd w hlo hhi ?_⟩
    · rw [eq_true_of_ne_false x]
      rfl
    · simp only [q_c, x_iload, x_lload, x_aload, q_istore, q_lstore, q_astore, q_astore2, x_iinc, q_iadd, q_isub, q_imul, q_iand, q_ior, q_ixor, q_ladd, q_lsub, q_lmul, q_land, q_lor, q_lxor, q_idiv, q_irem, q_ldiv, q_lrem, q_ineg, q_lneg, q_ishl, q_ishr, q_iushr, q_lshl, q_lshr, q_lushr, q_i2l, q_l2i, q_i2b, q_i2c, q_lcmp, q_if_eq, q_if_ne, q_if_lt, q_if_ge, q_if_gt, q_if_le, q_icmp_eq, q_icmp_ne, q_icmp_lt, q_icmp_ge, q_icmp_gt, q_icmp_le, q_dup, q_pop, q_dup_x1, q_dup2, x_iret, x_zret, x_lret, x_aret, x_vret, x_call, x_callv, x_calli, x_oinit, x_mmax, x_mmin, x_mabs, x_mmaxL, x_mminL, x_mabsL, lg_cmp_ge, lg_cmp_le, lg_cmp_gt, lg_cmp_lt, lg_cmp_eq, xlk, q_xs1, q_xs2, lv_args, Value.category, List.filter_cons, List.filter_nil, Nat.reduceAdd, Nat.reduceBEq, Nat.reduceEqDiff, Nat.reduceSub, Nat.sub_zero, beq_self_eq_true, Bool.not_true, Bool.not_false, Bool.and_true, Bool.and_false, Bool.true_and, Bool.false_and, reduceIte, reduceCtorEq, Bool.false_eq_true, Nat.one_ne_zero, Nat.zero_ne_one, Nat.zero_add, Option.toList_some, Option.toList_none, List.nil_append, List.cons_append, List.take_succ_cons, List.take_zero, List.take_nil, List.drop_succ_cons, List.drop_zero, List.length_cons, List.length_nil, List.reverse_cons, List.reverse_nil, List.head?_cons, List.map_cons, List.map_nil, List.sum_cons, List.sum_nil, true_and, and_true, List.getElem?_cons_zero, List.getElem?_cons_succ, Prod.eta, x_iast, x_bald, x_bast, x_last, x_alen, xup_s, xup_a1, xup_1a, xup_uu, nr_i, nr_l, nr_o, nr_a, ft_i, ft_l, ft_o, ft_a, Nat.reduceLT, i_cl0, i_cl1, i_n1, i_m1, List.set_cons_zero, List.set_cons_succ, Nat.reduceLeDiff, Nat.le_refl, Nat.zero_le, Nat.add_zero, x_no, x_ifnull, x_ifnonnull, x_acmp_eq, x_acmp_ne, x_swl, x_tsw, x_castC, true_or, or_true, nr_z, ft_z, nr_z0, nr_z1, ft_z0, ft_z1, nr_on, nr_an, ft_on, ft_an, bI_e0]
      refine ⟨fun y => fin false ?_, fun y => fin true ?_⟩
      · rw [y, Bool.and_false]
      · rw [x, eq_true_of_ne_false y]
        rfl
  · rw [if_neg c, if_neg (by omega), if_neg (by omega), if_neg (by omega), if_pos (by omega), decide_eq_false x]
  · rw [if_neg c, if_neg (by omega), if_neg (by omega), if_neg (by omega), if_pos (by omega), decide_eq_true x]
  · omega
  · rw [if_pos c, decide_eq_false d]
  · rw [if_pos c, decide_eq_true d]
