/-! bytes of a text -/
theorem nc_le {a b : Nat} (ha : a < 2 ^ 31) (hb : b < 2 ^ 31) : nI a ≤ nI b ↔ a ≤ b := by
  rw [i_le, nI_toInt ha, nI_toInt hb]
  exact Int.ofNat_le
theorem nc_lt {a b : Nat} (ha : a < 2 ^ 31) (hb : b < 2 ^ 31) : nI a < nI b ↔ a < b := by
  rw [i_lt, nI_toInt ha, nI_toInt hb]
  exact Int.ofNat_lt
def lwB (b : Nat) : Nat := if 65 ≤ b ∧ b ≤ 90 then b + 32 else b
theorem dX14_lower_0 : decode cX14_lower 0 = .ok (.iload_n 0, 1) := by decide +kernel
theorem dX14_lower_1 : decode cX14_lower 1 = .ok (.bipush 65, 2) := by decide +kernel
theorem dX14_lower_3 : decode cX14_lower 3 = .ok (.if_icmp .lt 16, 3) := by decide +kernel
theorem dX14_lower_6 : decode cX14_lower 6 = .ok (.iload_n 0, 1) := by decide +kernel
theorem dX14_lower_7 : decode cX14_lower 7 = .ok (.bipush 90, 2) := by decide +kernel
theorem dX14_lower_9 : decode cX14_lower 9 = .ok (.if_icmp .gt 10, 3) := by decide +kernel
theorem dX14_lower_12 : decode cX14_lower 12 = .ok (.iload_n 0, 1) := by decide +kernel
theorem dX14_lower_13 : decode cX14_lower 13 = .ok (.bipush 32, 2) := by decide +kernel
theorem dX14_lower_15 : decode cX14_lower 15 = .ok (.iadd, 1) := by decide +kernel
theorem dX14_lower_16 : decode cX14_lower 16 = .ok (.goto 4, 3) := by decide +kernel
theorem dX14_lower_19 : decode cX14_lower 19 = .ok (.iload_n 0, 1) := by decide +kernel
theorem dX14_lower_20 : decode cX14_lower 20 = .ok (.ireturn, 1) := by decide +kernel
abbrev r_X14_lower : Room := { frames := 0, cells := 0, slots := 0, locals := 0 }
abbrev m_X14_lower : xMd := (cX14_lower, RX14, 1, (some FieldType.int), false, r_X14_lower)
def b_X14_lower_20 (Q : xQ) : xK := x_iret Q
def b_X14_lower_19 (Q : xQ) : xK := x_iload 0 <| (b_X14_lower_20 Q)
def b_X14_lower_0 (Q : xQ) : xK := x_iload 0 <| x_c (.int 65) <| x_icmp_lt ((b_X14_lower_19 Q)) <| x_iload 0 <| x_c (.int 90) <| x_icmp_gt ((b_X14_lower_19 Q)) <| x_iload 0 <| x_c (.int 32) <| x_iadd <| (b_X14_lower_20 Q)
theorem s_X14_lower_20 (G : xG) (l : Launch) (Q : xQ) : xW G l m_X14_lower xX0 (xPm G Q r_X14_lower) 20 (b_X14_lower_20 Q) := xo_iret (pc := 20) rfl dX14_lower_20
theorem s_X14_lower_19 (G : xG) (l : Launch) (Q : xQ) : xW G l m_X14_lower xX0 (xPm G Q r_X14_lower) 19 (b_X14_lower_19 Q) := xo_iload_n (pc := 19) (i := 0) dX14_lower_19 rfl <| (s_X14_lower_20 G l Q)
theorem s_X14_lower_0 (G : xG) (l : Launch) (Q : xQ) : xW G l m_X14_lower xX0 (xPm G Q r_X14_lower) 0 (b_X14_lower_0 Q) := xo_iload_n (pc := 0) (i := 0) dX14_lower_0 rfl <| xo_bipush (pc := 1) dX14_lower_1 (by decide) <| xo_icmp_lt (pc := 3) (tgt := 19) dX14_lower_3 (by decide) ((s_X14_lower_19 G l Q)) <| xo_iload_n (pc := 6) (i := 0) dX14_lower_6 rfl <| xo_bipush (pc := 7) dX14_lower_7 (by decide) <| xo_icmp_gt (pc := 9) (tgt := 19) dX14_lower_9 (by decide) ((s_X14_lower_19 G l Q)) <| xo_iload_n (pc := 12) (i := 0) dX14_lower_12 rfl <| xo_bipush (pc := 13) dX14_lower_13 (by decide) <| xo_iadd (pc := 15) dX14_lower_15 <| xo_goto (pc := 16) (tgt := 20) dX14_lower_16 (by decide) <| (s_X14_lower_20 G l Q)

def C_X14_lower : xC := fun av S Q => ∃ b : Nat, av = [.int (nI b)] ∧ b < 256 ∧ Q (some (.int (nI (lwB b)))) S
theorem cM_X14_lower (G : xG) (l : Launch) : xM G l yX14_lower cX14_lower 1 (some FieldType.int) r_X14_lower C_X14_lower := by
  refine xM_of (fun Q => b_X14_lower_0 Q) RX14 false (s_X14_lower_0 G l) (by decide) rfl (by decide) ?_
  rintro av S Q ⟨b, rfl, hb, hQ⟩
  refine ⟨Nat.le_of_ble_eq_true rfl, ?_⟩
  have c1 : nI b < 65 ↔ b < 65 := nc_lt (b := 65) (by omega) (by decide)
  have c2 : (90 : Int32) < nI b ↔ 90 < b := nc_lt (a := 90) (by decide) (by omega)
  have e : nI b + 32 = nI (b + 32) := (Int32.ofNat_add b 32).symm
  unfold lwB at hQ
  simp only [q_c, x_iload, x_lload, x_aload, q_istore, q_lstore, q_astore, q_astore2, x_iinc, q_iadd, q_isub, q_imul, q_iand, q_ior, q_ixor, q_ladd, q_lsub, q_lmul, q_land, q_lor, q_lxor, q_idiv, q_irem, q_ldiv, q_lrem, q_ineg, q_lneg, q_ishl, q_ishr, q_iushr, q_lshl, q_lshr, q_lushr, q_i2l, q_l2i, q_i2b, q_i2c, q_lcmp, q_if_eq, q_if_ne, q_if_lt, q_if_ge, q_if_gt, q_if_le, q_icmp_eq, q_icmp_ne, q_icmp_lt, q_icmp_ge, q_icmp_gt, q_icmp_le, q_dup, q_pop, q_dup_x1, q_dup2, x_iret, x_zret, x_lret, x_aret, x_vret, x_call, x_callv, x_calli, x_oinit, x_mmax, x_mmin, x_mabs, x_mmaxL, x_mminL, x_mabsL, lg_cmp_ge, lg_cmp_le, lg_cmp_gt, lg_cmp_lt, lg_cmp_eq, xlk, q_xs1, q_xs2, lv_args, Value.category, List.filter_cons, List.filter_nil, Nat.reduceAdd, Nat.reduceBEq, Nat.reduceEqDiff, Nat.reduceSub, Nat.sub_zero, beq_self_eq_true, Bool.not_true, Bool.not_false, Bool.and_true, Bool.and_false, Bool.true_and, Bool.false_and, reduceIte, reduceCtorEq, Bool.false_eq_true, Nat.one_ne_zero, Nat.zero_ne_one, Nat.zero_add, Option.toList_some, Option.toList_none, List.nil_append, List.cons_append, List.take_succ_cons, List.take_zero, List.take_nil, List.drop_succ_cons, List.drop_zero, List.length_cons, List.length_nil, List.reverse_cons, List.reverse_nil, List.head?_cons, List.map_cons, List.map_nil, List.sum_cons, List.sum_nil, true_and, and_true, List.getElem?_cons_zero, List.getElem?_cons_succ, Prod.eta, x_iast, x_bald, x_bast, x_last, x_alen, xup_s, xup_a1, xup_1a, xup_uu, nr_i, nr_l, nr_o, nr_a, ft_i, ft_l, ft_o, ft_a, Nat.reduceLT, i_cl0, i_cl1, i_n1, i_m1, List.set_cons_zero, List.set_cons_succ, Nat.reduceLeDiff, Nat.le_refl, Nat.zero_le, Nat.add_zero, x_no, x_ifnull, x_ifnonnull, x_acmp_eq, x_acmp_ne, x_swl, x_tsw, x_castC, true_or, or_true, nr_z, ft_z, nr_z0, nr_z1, ft_z0, ft_z1, nr_on, nr_an, ft_on, ft_an, b_X14_lower_0, b_X14_lower_19, b_X14_lower_20, c1, c2, e]
  refine ⟨fun a => ?_, fun a => ⟨fun d => ?_, fun d => ?_⟩⟩
  · rw [if_neg (by omega)] at hQ
    exact hQ
  · rw [if_neg (by omega)] at hQ
    exact hQ
  · rw [if_pos (by omega)] at hQ
    exact hQ
theorem dX14_isBlank_0 : decode cX14_isBlank 0 = .ok (.iload_n 0, 1) := by decide +kernel
theorem dX14_isBlank_1 : decode cX14_isBlank 1 = .ok (.bipush 32, 2) := by decide +kernel
theorem dX14_isBlank_3 : decode cX14_isBlank 3 = .ok (.if_icmp .eq 9, 3) := by decide +kernel
theorem dX14_isBlank_6 : decode cX14_isBlank 6 = .ok (.iload_n 0, 1) := by decide +kernel
theorem dX14_isBlank_7 : decode cX14_isBlank 7 = .ok (.bipush 9, 2) := by decide +kernel
theorem dX14_isBlank_9 : decode cX14_isBlank 9 = .ok (.if_icmp .ne 7, 3) := by decide +kernel
theorem dX14_isBlank_12 : decode cX14_isBlank 12 = .ok (.iconst 1, 1) := by decide +kernel
theorem dX14_isBlank_13 : decode cX14_isBlank 13 = .ok (.goto 4, 3) := by decide +kernel
theorem dX14_isBlank_16 : decode cX14_isBlank 16 = .ok (.iconst 0, 1) := by decide +kernel
theorem dX14_isBlank_17 : decode cX14_isBlank 17 = .ok (.ireturn, 1) := by decide +kernel
abbrev r_X14_isBlank : Room := { frames := 0, cells := 0, slots := 0, locals := 0 }
abbrev m_X14_isBlank : xMd := (cX14_isBlank, RX14, 1, (some FieldType.boolean), false, r_X14_isBlank)
def b_X14_isBlank_17 (Q : xQ) : xK := x_zret FieldType.boolean Q
def b_X14_isBlank_12 (Q : xQ) : xK := x_c (.int 1) <| (b_X14_isBlank_17 Q)
def b_X14_isBlank_0 (Q : xQ) : xK := x_iload 0 <| x_c (.int 32) <| x_icmp_eq ((b_X14_isBlank_12 Q)) <| x_iload 0 <| x_c (.int 9) <| x_icmp_ne (x_c (.int 0) <| (b_X14_isBlank_17 Q)) <| (b_X14_isBlank_12 Q)
theorem s_X14_isBlank_17 (G : xG) (l : Launch) (Q : xQ) : xW G l m_X14_isBlank xX0 (xPm G Q r_X14_isBlank) 17 (b_X14_isBlank_17 Q) := xo_zret (pc := 17) rfl dX14_isBlank_17
theorem s_X14_isBlank_12 (G : xG) (l : Launch) (Q : xQ) : xW G l m_X14_isBlank xX0 (xPm G Q r_X14_isBlank) 12 (b_X14_isBlank_12 Q) := xo_iconst (pc := 12) dX14_isBlank_12 (by decide) <| xo_goto (pc := 13) (tgt := 17) dX14_isBlank_13 (by decide) <| (s_X14_isBlank_17 G l Q)
theorem s_X14_isBlank_0 (G : xG) (l : Launch) (Q : xQ) : xW G l m_X14_isBlank xX0 (xPm G Q r_X14_isBlank) 0 (b_X14_isBlank_0 Q) := xo_iload_n (pc := 0) (i := 0) dX14_isBlank_0 rfl <| xo_bipush (pc := 1) dX14_isBlank_1 (by decide) <| xo_icmp_eq (pc := 3) (tgt := 12) dX14_isBlank_3 (by decide) ((s_X14_isBlank_12 G l Q)) <| xo_iload_n (pc := 6) (i := 0) dX14_isBlank_6 rfl <| xo_bipush (pc := 7) dX14_isBlank_7 (by decide) <| xo_icmp_ne (pc := 9) (tgt := 16) dX14_isBlank_9 (by decide) (xo_iconst (pc := 16) dX14_isBlank_16 (by decide) <| (s_X14_isBlank_17 G l Q)) <| (s_X14_isBlank_12 G l Q)

def blB (b : Nat) : Bool := decide (b = 32 ∨ b = 9)
def C_X14_isBlank : xC := fun av S Q => ∃ b : Nat, av = [.int (nI b)] ∧ b < 256 ∧ Q (some (.int (bI (blB b)))) S
theorem cM_X14_isBlank (G : xG) (l : Launch) : xM G l yX14_isBlank cX14_isBlank 1 (some FieldType.boolean) r_X14_isBlank C_X14_isBlank := by
  refine xM_of (fun Q => b_X14_isBlank_0 Q) RX14 false (s_X14_isBlank_0 G l) (by decide) rfl (by decide) ?_
  rintro av S Q ⟨b, rfl, hb, hQ⟩
  refine ⟨Nat.le_of_ble_eq_true rfl, ?_⟩
  have c1 : nI b = 32 ↔ b = 32 := nI_eq (b := 32) (by omega) (by decide)
  have c2 : nI b = 9 ↔ b = 9 := nI_eq (b := 9) (by omega) (by decide)
  have fin : ∀ t, t = blB b → Q (some (.int (bI t))) S := fun t ht => by rw [ht]; exact hQ
  simp only [q_c, x_iload, x_lload, x_aload, q_istore, q_lstore, q_astore, q_astore2, x_iinc, q_iadd, q_isub, q_imul, q_iand, q_ior, q_ixor, q_ladd, q_lsub, q_lmul, q_land, q_lor, q_lxor, q_idiv, q_irem, q_ldiv, q_lrem, q_ineg, q_lneg, q_ishl, q_ishr, q_iushr, q_lshl, q_lshr, q_lushr, q_i2l, q_l2i, q_i2b, q_i2c, q_lcmp, q_if_eq, q_if_ne, q_if_lt, q_if_ge, q_if_gt, q_if_le, q_icmp_eq, q_icmp_ne, q_icmp_lt, q_icmp_ge, q_icmp_gt, q_icmp_le, q_dup, q_pop, q_dup_x1, q_dup2, x_iret, x_zret, x_lret, x_aret, x_vret, x_call, x_callv, x_calli, x_oinit, x_mmax, x_mmin, x_mabs, x_mmaxL, x_mminL, x_mabsL, lg_cmp_ge, lg_cmp_le, lg_cmp_gt, lg_cmp_lt, lg_cmp_eq, xlk, q_xs1, q_xs2, lv_args, Value.category, List.filter_cons, List.filter_nil, Nat.reduceAdd, Nat.reduceBEq, Nat.reduceEqDiff, Nat.reduceSub, Nat.sub_zero, beq_self_eq_true, Bool.not_true, Bool.not_false, Bool.and_true, Bool.and_false, Bool.true_and, Bool.false_and, reduceIte, reduceCtorEq, Bool.false_eq_true, Nat.one_ne_zero, Nat.zero_ne_one, Nat.zero_add, Option.toList_some, Option.toList_none, List.nil_append, List.cons_append, List.take_succ_cons, List.take_zero, List.take_nil, List.drop_succ_cons, List.drop_zero, List.length_cons, List.length_nil, List.reverse_cons, List.reverse_nil, List.head?_cons, List.map_cons, List.map_nil, List.sum_cons, List.sum_nil, true_and, and_true, List.getElem?_cons_zero, List.getElem?_cons_succ, Prod.eta, x_iast, x_bald, x_bast, x_last, x_alen, xup_s, xup_a1, xup_1a, xup_uu, nr_i, nr_l, nr_o, nr_a, ft_i, ft_l, ft_o, ft_a, Nat.reduceLT, i_cl0, i_cl1, i_n1, i_m1, List.set_cons_zero, List.set_cons_succ, Nat.reduceLeDiff, Nat.le_refl, Nat.zero_le, Nat.add_zero, x_no, x_ifnull, x_ifnonnull, x_acmp_eq, x_acmp_ne, x_swl, x_tsw, x_castC, true_or, or_true, nr_z, ft_z, nr_z0, nr_z1, ft_z0, ft_z1, nr_on, nr_an, ft_on, ft_an, b_X14_isBlank_0, b_X14_isBlank_12, b_X14_isBlank_17, c1, c2]
  exact ⟨fun a => fin true (decide_eq_true (by omega)).symm, fun a => ⟨fun d => fin false (decide_eq_false (by omega)).symm, fun d => fin true (decide_eq_true (by omega)).symm⟩⟩
theorem dX14_isDigit_0 : decode cX14_isDigit 0 = .ok (.iload_n 0, 1) := by decide +kernel
theorem dX14_isDigit_1 : decode cX14_isDigit 1 = .ok (.bipush 48, 2) := by decide +kernel
theorem dX14_isDigit_3 : decode cX14_isDigit 3 = .ok (.if_icmp .lt 13, 3) := by decide +kernel
theorem dX14_isDigit_6 : decode cX14_isDigit 6 = .ok (.iload_n 0, 1) := by decide +kernel
theorem dX14_isDigit_7 : decode cX14_isDigit 7 = .ok (.bipush 57, 2) := by decide +kernel
theorem dX14_isDigit_9 : decode cX14_isDigit 9 = .ok (.if_icmp .gt 7, 3) := by decide +kernel
theorem dX14_isDigit_12 : decode cX14_isDigit 12 = .ok (.iconst 1, 1) := by decide +kernel
theorem dX14_isDigit_13 : decode cX14_isDigit 13 = .ok (.goto 4, 3) := by decide +kernel
theorem dX14_isDigit_16 : decode cX14_isDigit 16 = .ok (.iconst 0, 1) := by decide +kernel
theorem dX14_isDigit_17 : decode cX14_isDigit 17 = .ok (.ireturn, 1) := by decide +kernel
abbrev r_X14_isDigit : Room := { frames := 0, cells := 0, slots := 0, locals := 0 }
abbrev m_X14_isDigit : xMd := (cX14_isDigit, RX14, 1, (some FieldType.boolean), false, r_X14_isDigit)
def b_X14_isDigit_17 (Q : xQ) : xK := x_zret FieldType.boolean Q
def b_X14_isDigit_16 (Q : xQ) : xK := x_c (.int 0) <| (b_X14_isDigit_17 Q)
def b_X14_isDigit_0 (Q : xQ) : xK := x_iload 0 <| x_c (.int 48) <| x_icmp_lt ((b_X14_isDigit_16 Q)) <| x_iload 0 <| x_c (.int 57) <| x_icmp_gt ((b_X14_isDigit_16 Q)) <| x_c (.int 1) <| (b_X14_isDigit_17 Q)
theorem s_X14_isDigit_17 (G : xG) (l : Launch) (Q : xQ) : xW G l m_X14_isDigit xX0 (xPm G Q r_X14_isDigit) 17 (b_X14_isDigit_17 Q) := xo_zret (pc := 17) rfl dX14_isDigit_17
theorem s_X14_isDigit_16 (G : xG) (l : Launch) (Q : xQ) : xW G l m_X14_isDigit xX0 (xPm G Q r_X14_isDigit) 16 (b_X14_isDigit_16 Q) := xo_iconst (pc := 16) dX14_isDigit_16 (by decide) <| (s_X14_isDigit_17 G l Q)
theorem s_X14_isDigit_0 (G : xG) (l : Launch) (Q : xQ) : xW G l m_X14_isDigit xX0 (xPm G Q r_X14_isDigit) 0 (b_X14_isDigit_0 Q) := xo_iload_n (pc := 0) (i := 0) dX14_isDigit_0 rfl <| xo_bipush (pc := 1) dX14_isDigit_1 (by decide) <| xo_icmp_lt (pc := 3) (tgt := 16) dX14_isDigit_3 (by decide) ((s_X14_isDigit_16 G l Q)) <| xo_iload_n (pc := 6) (i := 0) dX14_isDigit_6 rfl <| xo_bipush (pc := 7) dX14_isDigit_7 (by decide) <| xo_icmp_gt (pc := 9) (tgt := 16) dX14_isDigit_9 (by decide) ((s_X14_isDigit_16 G l Q)) <| xo_iconst (pc := 12) dX14_isDigit_12 (by decide) <| xo_goto (pc := 13) (tgt := 17) dX14_isDigit_13 (by decide) <| (s_X14_isDigit_17 G l Q)

def dgB (b : Nat) : Bool := decide (48 ≤ b ∧ b ≤ 57)
def C_X14_isDigit : xC := fun av S Q => ∃ b : Nat, av = [.int (nI b)] ∧ b < 256 ∧ Q (some (.int (bI (dgB b)))) S
theorem cM_X14_isDigit (G : xG) (l : Launch) : xM G l yX14_isDigit cX14_isDigit 1 (some FieldType.boolean) r_X14_isDigit C_X14_isDigit := by
  refine xM_of (fun Q => b_X14_isDigit_0 Q) RX14 false (s_X14_isDigit_0 G l) (by decide) rfl (by decide) ?_
  rintro av S Q ⟨b, rfl, hb, hQ⟩
  refine ⟨Nat.le_of_ble_eq_true rfl, ?_⟩
  have c1 : nI b < 48 ↔ b < 48 := nc_lt (b := 48) (by omega) (by decide)
  have c2 : (57 : Int32) < nI b ↔ 57 < b := nc_lt (a := 57) (by decide) (by omega)
  have fin : ∀ t, t = dgB b → Q (some (.int (bI t))) S := fun t ht => by rw [ht]; exact hQ
  simp only [q_c, x_iload, x_lload, x_aload, q_istore, q_lstore, q_astore, q_astore2, x_iinc, q_iadd, q_isub, q_imul, q_iand, q_ior, q_ixor, q_ladd, q_lsub, q_lmul, q_land, q_lor, q_lxor, q_idiv, q_irem, q_ldiv, q_lrem, q_ineg, q_lneg, q_ishl, q_ishr, q_iushr, q_lshl, q_lshr, q_lushr, q_i2l, q_l2i, q_i2b, q_i2c, q_lcmp, q_if_eq, q_if_ne, q_if_lt, q_if_ge, q_if_gt, q_if_le, q_icmp_eq, q_icmp_ne, q_icmp_lt, q_icmp_ge, q_icmp_gt, q_icmp_le, q_dup, q_pop, q_dup_x1, q_dup2, x_iret, x_zret, x_lret, x_aret, x_vret, x_call, x_callv, x_calli, x_oinit, x_mmax, x_mmin, x_mabs, x_mmaxL, x_mminL, x_mabsL, lg_cmp_ge, lg_cmp_le, lg_cmp_gt, lg_cmp_lt, lg_cmp_eq, xlk, q_xs1, q_xs2, lv_args, Value.category, List.filter_cons, List.filter_nil, Nat.reduceAdd, Nat.reduceBEq, Nat.reduceEqDiff, Nat.reduceSub, Nat.sub_zero, beq_self_eq_true, Bool.not_true, Bool.not_false, Bool.and_true, Bool.and_false, Bool.true_and, Bool.false_and, reduceIte, reduceCtorEq, Bool.false_eq_true, Nat.one_ne_zero, Nat.zero_ne_one, Nat.zero_add, Option.toList_some, Option.toList_none, List.nil_append, List.cons_append, List.take_succ_cons, List.take_zero, List.take_nil, List.drop_succ_cons, List.drop_zero, List.length_cons, List.length_nil, List.reverse_cons, List.reverse_nil, List.head?_cons, List.map_cons, List.map_nil, List.sum_cons, List.sum_nil, true_and, and_true, List.getElem?_cons_zero, List.getElem?_cons_succ, Prod.eta, x_iast, x_bald, x_bast, x_last, x_alen, xup_s, xup_a1, xup_1a, xup_uu, nr_i, nr_l, nr_o, nr_a, ft_i, ft_l, ft_o, ft_a, Nat.reduceLT, i_cl0, i_cl1, i_n1, i_m1, List.set_cons_zero, List.set_cons_succ, Nat.reduceLeDiff, Nat.le_refl, Nat.zero_le, Nat.add_zero, x_no, x_ifnull, x_ifnonnull, x_acmp_eq, x_acmp_ne, x_swl, x_tsw, x_castC, true_or, or_true, nr_z, ft_z, nr_z0, nr_z1, ft_z0, ft_z1, nr_on, nr_an, ft_on, ft_an, b_X14_isDigit_0, b_X14_isDigit_16, b_X14_isDigit_17, c1, c2]
  exact ⟨fun a => fin false (decide_eq_false (by omega)).symm, fun a => ⟨fun d => fin false (decide_eq_false (by omega)).symm, fun d => fin true (decide_eq_true (by omega)).symm⟩⟩
theorem dX14_hexDigit_0 : decode cX14_hexDigit 0 = .ok (.iload_n 0, 1) := by decide +kernel
theorem dX14_hexDigit_1 : decode cX14_hexDigit 1 = .ok (.invokestatic 361, 3) := by decide +kernel
theorem dX14_hexDigit_4 : decode cX14_hexDigit 4 = .ok (.ifCond .eq 10, 3) := by decide +kernel
theorem dX14_hexDigit_7 : decode cX14_hexDigit 7 = .ok (.iload_n 0, 1) := by decide +kernel
theorem dX14_hexDigit_8 : decode cX14_hexDigit 8 = .ok (.bipush 48, 2) := by decide +kernel
theorem dX14_hexDigit_10 : decode cX14_hexDigit 10 = .ok (.isub, 1) := by decide +kernel
theorem dX14_hexDigit_11 : decode cX14_hexDigit 11 = .ok (.goto 24, 3) := by decide +kernel
theorem dX14_hexDigit_14 : decode cX14_hexDigit 14 = .ok (.iload_n 0, 1) := by decide +kernel
theorem dX14_hexDigit_15 : decode cX14_hexDigit 15 = .ok (.bipush 97, 2) := by decide +kernel
theorem dX14_hexDigit_17 : decode cX14_hexDigit 17 = .ok (.if_icmp .lt 16, 3) := by decide +kernel
theorem dX14_hexDigit_20 : decode cX14_hexDigit 20 = .ok (.iload_n 0, 1) := by decide +kernel
theorem dX14_hexDigit_21 : decode cX14_hexDigit 21 = .ok (.bipush 102, 2) := by decide +kernel
theorem dX14_hexDigit_23 : decode cX14_hexDigit 23 = .ok (.if_icmp .gt 10, 3) := by decide +kernel
theorem dX14_hexDigit_26 : decode cX14_hexDigit 26 = .ok (.iload_n 0, 1) := by decide +kernel
theorem dX14_hexDigit_27 : decode cX14_hexDigit 27 = .ok (.bipush 87, 2) := by decide +kernel
theorem dX14_hexDigit_29 : decode cX14_hexDigit 29 = .ok (.isub, 1) := by decide +kernel
theorem dX14_hexDigit_30 : decode cX14_hexDigit 30 = .ok (.goto 5, 3) := by decide +kernel
theorem dX14_hexDigit_33 : decode cX14_hexDigit 33 = .ok (.bipush 99, 2) := by decide +kernel
theorem dX14_hexDigit_35 : decode cX14_hexDigit 35 = .ok (.ireturn, 1) := by decide +kernel
abbrev r_X14_hexDigit : Room := { frames := 1, cells := 0, slots := 0, locals := 20 }
abbrev m_X14_hexDigit : xMd := (cX14_hexDigit, RX14, 1, (some FieldType.int), false, r_X14_hexDigit)
def b_X14_hexDigit_35 (Q : xQ) : xK := x_iret Q
def b_X14_hexDigit_33 (Q : xQ) : xK := x_c (.int 99) <| (b_X14_hexDigit_35 Q)
def b_X14_hexDigit_0 (Q : xQ) : xK := x_iload 0 <| x_call C_X14_isDigit 1 0 0 <| x_if_eq (x_iload 0 <| x_c (.int 97) <| x_icmp_lt ((b_X14_hexDigit_33 Q)) <| x_iload 0 <| x_c (.int 102) <| x_icmp_gt ((b_X14_hexDigit_33 Q)) <| x_iload 0 <| x_c (.int 87) <| x_isub <| (b_X14_hexDigit_35 Q)) <| x_iload 0 <| x_c (.int 48) <| x_isub <| (b_X14_hexDigit_35 Q)
theorem s_X14_hexDigit_35 (G : xG) (l : Launch) (Q : xQ) : xW G l m_X14_hexDigit xX0 (xPm G Q r_X14_hexDigit) 35 (b_X14_hexDigit_35 Q) := xo_iret (pc := 35) rfl dX14_hexDigit_35
theorem s_X14_hexDigit_33 (G : xG) (l : Launch) (Q : xQ) : xW G l m_X14_hexDigit xX0 (xPm G Q r_X14_hexDigit) 33 (b_X14_hexDigit_33 Q) := xo_bipush (pc := 33) dX14_hexDigit_33 (by decide) <| (s_X14_hexDigit_35 G l Q)
theorem s_X14_hexDigit_0 (G : xG) (l : Launch) (Q : xQ) : xW G l m_X14_hexDigit xX0 (xPm G Q r_X14_hexDigit) 0 (b_X14_hexDigit_0 Q) := xo_iload_n (pc := 0) (i := 0) dX14_hexDigit_0 rfl <| xo_callS (pc := 1) (np := 1) (cM_X14_isDigit G l) dX14_hexDigit_1 kw1706 kw1704 kw1705 kw13 (by decide +kernel) (by decide) <| xo_if_eq (pc := 4) (tgt := 14) dX14_hexDigit_4 (by decide) (xo_iload_n (pc := 14) (i := 0) dX14_hexDigit_14 rfl <| xo_bipush (pc := 15) dX14_hexDigit_15 (by decide) <| xo_icmp_lt (pc := 17) (tgt := 33) dX14_hexDigit_17 (by decide) ((s_X14_hexDigit_33 G l Q)) <| xo_iload_n (pc := 20) (i := 0) dX14_hexDigit_20 rfl <| xo_bipush (pc := 21) dX14_hexDigit_21 (by decide) <| xo_icmp_gt (pc := 23) (tgt := 33) dX14_hexDigit_23 (by decide) ((s_X14_hexDigit_33 G l Q)) <| xo_iload_n (pc := 26) (i := 0) dX14_hexDigit_26 rfl <| xo_bipush (pc := 27) dX14_hexDigit_27 (by decide) <| xo_isub (pc := 29) dX14_hexDigit_29 <| xo_goto (pc := 30) (tgt := 35) dX14_hexDigit_30 (by decide) <| (s_X14_hexDigit_35 G l Q)) <| xo_iload_n (pc := 7) (i := 0) dX14_hexDigit_7 rfl <| xo_bipush (pc := 8) dX14_hexDigit_8 (by decide) <| xo_isub (pc := 10) dX14_hexDigit_10 <| xo_goto (pc := 11) (tgt := 35) dX14_hexDigit_11 (by decide) <| (s_X14_hexDigit_35 G l Q)

def hxB (b : Nat) : Nat := if 48 ≤ b ∧ b ≤ 57 then b - 48 else if 97 ≤ b ∧ b ≤ 102 then b - 87 else 99
def C_X14_hexDigit : xC := fun av S Q => ∃ b : Nat, av = [.int (nI b)] ∧ b < 256 ∧ Q (some (.int (nI (hxB b)))) S
theorem cM_X14_hexDigit (G : xG) (l : Launch) : xM G l yX14_hexDigit cX14_hexDigit 1 (some FieldType.int) r_X14_hexDigit C_X14_hexDigit := by
  refine xM_of (fun Q => b_X14_hexDigit_0 Q) RX14 false (s_X14_hexDigit_0 G l) (by decide) rfl (by decide) ?_
  rintro av S Q ⟨b, rfl, hb, hQ⟩
  refine ⟨Nat.le_of_ble_eq_true rfl, ?_⟩
  have c1 : nI b < 97 ↔ b < 97 := nc_lt (b := 97) (by omega) (by decide)
  have c2 : (102 : Int32) < nI b ↔ 102 < b := nc_lt (a := 102) (by decide) (by omega)
  unfold hxB at hQ
  simp only [q_c, x_iload, x_lload, x_aload, q_istore, q_lstore, q_astore, q_astore2, x_iinc, q_iadd, q_isub, q_imul, q_iand, q_ior, q_ixor, q_ladd, q_lsub, q_lmul, q_land, q_lor, q_lxor, q_idiv, q_irem, q_ldiv, q_lrem, q_ineg, q_lneg, q_ishl, q_ishr, q_iushr, q_lshl, q_lshr, q_lushr, q_i2l, q_l2i, q_i2b, q_i2c, q_lcmp, q_if_eq, q_if_ne, q_if_lt, q_if_ge, q_if_gt, q_if_le, q_icmp_eq, q_icmp_ne, q_icmp_lt, q_icmp_ge, q_icmp_gt, q_icmp_le, q_dup, q_pop, q_dup_x1, q_dup2, x_iret, x_zret, x_lret, x_aret, x_vret, x_call, x_callv, x_calli, x_oinit, x_mmax, x_mmin, x_mabs, x_mmaxL, x_mminL, x_mabsL, lg_cmp_ge, lg_cmp_le, lg_cmp_gt, lg_cmp_lt, lg_cmp_eq, xlk, q_xs1, q_xs2, lv_args, Value.category, List.filter_cons, List.filter_nil, Nat.reduceAdd, Nat.reduceBEq, Nat.reduceEqDiff, Nat.reduceSub, Nat.sub_zero, beq_self_eq_true, Bool.not_true, Bool.not_false, Bool.and_true, Bool.and_false, Bool.true_and, Bool.false_and, reduceIte, reduceCtorEq, Bool.false_eq_true, Nat.one_ne_zero, Nat.zero_ne_one, Nat.zero_add, Option.toList_some, Option.toList_none, List.nil_append, List.cons_append, List.take_succ_cons, List.take_zero, List.take_nil, List.drop_succ_cons, List.drop_zero, List.length_cons, List.length_nil, List.reverse_cons, List.reverse_nil, List.head?_cons, List.map_cons, List.map_nil, List.sum_cons, List.sum_nil, true_and, and_true, List.getElem?_cons_zero, List.getElem?_cons_succ, Prod.eta, x_iast, x_bald, x_bast, x_last, x_alen, xup_s, xup_a1, xup_1a, xup_uu, nr_i, nr_l, nr_o, nr_a, ft_i, ft_l, ft_o, ft_a, Nat.reduceLT, i_cl0, i_cl1, i_n1, i_m1, List.set_cons_zero, List.set_cons_succ, Nat.reduceLeDiff, Nat.le_refl, Nat.zero_le, Nat.add_zero, x_no, x_ifnull, x_ifnonnull, x_acmp_eq, x_acmp_ne, x_swl, x_tsw, x_castC, true_or, or_true, nr_z, ft_z, nr_z0, nr_z1, ft_z0, ft_z1, nr_on, nr_an, ft_on, ft_an, b_X14_hexDigit_0, b_X14_hexDigit_33, b_X14_hexDigit_35]
  refine ⟨b, rfl, hb, ?_⟩
  simp only [q_c, x_iload, x_lload, x_aload, q_istore, q_lstore, q_astore, q_astore2, x_iinc, q_iadd, q_isub, q_imul, q_iand, q_ior, q_ixor, q_ladd, q_lsub, q_lmul, q_land, q_lor, q_lxor, q_idiv, q_irem, q_ldiv, q_lrem, q_ineg, q_lneg, q_ishl, q_ishr, q_iushr, q_lshl, q_lshr, q_lushr, q_i2l, q_l2i, q_i2b, q_i2c, q_lcmp, q_if_eq, q_if_ne, q_if_lt, q_if_ge, q_if_gt, q_if_le, q_icmp_eq, q_icmp_ne, q_icmp_lt, q_icmp_ge, q_icmp_gt, q_icmp_le, q_dup, q_pop, q_dup_x1, q_dup2, x_iret, x_zret, x_lret, x_aret, x_vret, x_call, x_callv, x_calli, x_oinit, x_mmax, x_mmin, x_mabs, x_mmaxL, x_mminL, x_mabsL, lg_cmp_ge, lg_cmp_le, lg_cmp_gt, lg_cmp_lt, lg_cmp_eq, xlk, q_xs1, q_xs2, lv_args, Value.category, List.filter_cons, List.filter_nil, Nat.reduceAdd, Nat.reduceBEq, Nat.reduceEqDiff, Nat.reduceSub, Nat.sub_zero, beq_self_eq_true, Bool.not_true, Bool.not_false, Bool.and_true, Bool.and_false, Bool.true_and, Bool.false_and, reduceIte, reduceCtorEq, Bool.false_eq_true, Nat.one_ne_zero, Nat.zero_ne_one, Nat.zero_add, Option.toList_some, Option.toList_none, List.nil_append, List.cons_append, List.take_succ_cons, List.take_zero, List.take_nil, List.drop_succ_cons, List.drop_zero, List.length_cons, List.length_nil, List.reverse_cons, List.reverse_nil, List.head?_cons, List.map_cons, List.map_nil, List.sum_cons, List.sum_nil, true_and, and_true, List.getElem?_cons_zero, List.getElem?_cons_succ, Prod.eta, x_iast, x_bald, x_bast, x_last, x_alen, xup_s, xup_a1, xup_1a, xup_uu, nr_i, nr_l, nr_o, nr_a, ft_i, ft_l, ft_o, ft_a, Nat.reduceLT, i_cl0, i_cl1, i_n1, i_m1, List.set_cons_zero, List.set_cons_succ, Nat.reduceLeDiff, Nat.le_refl, Nat.zero_le, Nat.add_zero, x_no, x_ifnull, x_ifnonnull, x_acmp_eq, x_acmp_ne, x_swl, x_tsw, x_castC, true_or, or_true, nr_z, ft_z, nr_z0, nr_z1, ft_z0, ft_z1, nr_on, nr_an, ft_on, ft_an, bI_e0, c1, c2]
  refine ⟨fun a => ?_, fun a => ?_⟩
  · have na : ¬ (48 ≤ b ∧ b ≤ 57) := of_decide_eq_false a
    rw [if_neg na] at hQ
    refine ⟨fun d => ?_, fun d => ⟨fun e => ?_, fun e => ?_⟩⟩
    · rw [if_neg (by omega)] at hQ
      exact hQ
    · rw [if_neg (by omega)] at hQ
      exact hQ
    · rw [if_pos (by omega)] at hQ
      rw [show nI b - 87 = nI (b - 87) from pk_sub (b := 87) (by omega)]
      exact hQ
  · have na : 48 ≤ b ∧ b ≤ 57 := of_decide_eq_true (eq_true_of_ne_false a)
    rw [if_pos na] at hQ
    rw [show nI b - 48 = nI (b - 48) from pk_sub (b := 48) (by omega)]
    exact hQ
section TP
variable {h : xH} {M : Nat} {t : Nat → Nat} {k : xK} {lv : List (Nat × Value)} {r : List Value} {T : Nat × Nat × Nat} {i : Nat}
theorem tpR.ld (w : tpR h M t) (q : i < 400) : x_iald k lv (.int (nI i) :: .ref (M + 20) :: r) (h, T) = k lv (.int (nI (t i)) :: r) (h, T) := by
  have c := m_cl (n := i) (by omega)
  have v : vp_in (nI i) 400 = True := eq_true (vp_in_nI (by omega) (by decide))
  simp only [x_iald, w.1, c, v, true_and]
end TP
theorem dX14_findByte_0 : decode cX14_findByte 0 = .ok (.iload_n 1, 1) := by decide +kernel
theorem dX14_findByte_1 : decode cX14_findByte 1 = .ok (.istore 4, 2) := by decide +kernel
theorem dX14_findByte_3 : decode cX14_findByte 3 = .ok (.iload 4, 2) := by decide +kernel
theorem dX14_findByte_5 : decode cX14_findByte 5 = .ok (.iload_n 2, 1) := by decide +kernel
theorem dX14_findByte_6 : decode cX14_findByte 6 = .ok (.if_icmp .ge 23, 3) := by decide +kernel
theorem dX14_findByte_9 : decode cX14_findByte 9 = .ok (.aload_n 0, 1) := by decide +kernel
theorem dX14_findByte_10 : decode cX14_findByte 10 = .ok (.getfield 122, 3) := by decide +kernel
theorem dX14_findByte_13 : decode cX14_findByte 13 = .ok (.iload 4, 2) := by decide +kernel
theorem dX14_findByte_15 : decode cX14_findByte 15 = .ok (.iaload, 1) := by decide +kernel
theorem dX14_findByte_16 : decode cX14_findByte 16 = .ok (.iload_n 3, 1) := by decide +kernel
theorem dX14_findByte_17 : decode cX14_findByte 17 = .ok (.if_icmp .ne 6, 3) := by decide +kernel
theorem dX14_findByte_20 : decode cX14_findByte 20 = .ok (.iload 4, 2) := by decide +kernel
theorem dX14_findByte_22 : decode cX14_findByte 22 = .ok (.ireturn, 1) := by decide +kernel
theorem dX14_findByte_23 : decode cX14_findByte 23 = .ok (.iinc 4 1, 3) := by decide +kernel
theorem dX14_findByte_26 : decode cX14_findByte 26 = .ok (.goto (-23), 3) := by decide +kernel
theorem dX14_findByte_29 : decode cX14_findByte 29 = .ok (.iconst (-1), 1) := by decide +kernel
theorem dX14_findByte_30 : decode cX14_findByte 30 = .ok (.ireturn, 1) := by decide +kernel
abbrev r_X14_findByte : Room := { frames := 0, cells := 0, slots := 0, locals := 0 }
abbrev m_X14_findByte : xMd := (cX14_findByte, RX14, 5, (some FieldType.int), false, r_X14_findByte)
def b_X14_findByte_0 (Q : xQ) (K3 : xK) : xK := x_iload 1 <| x_istore 4 <| K3
def b_X14_findByte_3 (Q : xQ) (K3 : xK) : xK := x_iload 4 <| x_iload 2 <| x_icmp_ge (x_c (.int (-1)) <| x_iret Q) <| x_aload 0 <| x_get 13 8 <| x_iload 4 <| x_iald <| x_iload 3 <| x_icmp_ne (x_iinc 4 1 <| K3) <| x_iload 4 <| x_iret Q
theorem s_X14_findByte_0 (G : xG) (l : Launch) (Q : xQ) (K3 : xK) (h3 : xW G l m_X14_findByte xX0 (xPm G Q r_X14_findByte) 3 K3) : xW G l m_X14_findByte xX0 (xPm G Q r_X14_findByte) 0 (b_X14_findByte_0 Q K3) := xo_iload_n (pc := 0) (i := 1) dX14_findByte_0 rfl <| xo_istore (pc := 1) (i := 4) dX14_findByte_1 (by decide) <| h3
theorem s_X14_findByte_3 (G : xG) (l : Launch) (Q : xQ) (K3 : xK) (h3 : xW G l m_X14_findByte xX0 (xPm G Q r_X14_findByte) 3 K3) : xW G l m_X14_findByte xX0 (xPm G Q r_X14_findByte) 3 (b_X14_findByte_3 Q K3) := xo_iload (pc := 3) (i := 4) dX14_findByte_3 <| xo_iload_n (pc := 5) (i := 2) dX14_findByte_5 rfl <| xo_icmp_ge (pc := 6) (tgt := 29) dX14_findByte_6 (by decide) (xo_iconst (pc := 29) dX14_findByte_29 (by decide) <| xo_iret (pc := 30) rfl dX14_findByte_30) <| xo_aload_n (pc := 9) (i := 0) dX14_findByte_9 rfl <| xo_get (pc := 10) (ci := 13) (i := 8) rfl ok13 (by decide) dX14_findByte_10 kw1209 <| xo_iload (pc := 13) (i := 4) dX14_findByte_13 <| xo_iald (pc := 15) dX14_findByte_15 <| xo_iload_n (pc := 16) (i := 3) dX14_findByte_16 rfl <| xo_icmp_ne (pc := 17) (tgt := 23) dX14_findByte_17 (by decide) (xo_iinc (pc := 23) dX14_findByte_23 (by decide) <| xo_goto (pc := 26) (tgt := 3) dX14_findByte_26 (by decide) <| h3) <| xo_iload (pc := 20) (i := 4) dX14_findByte_20 <| xo_iret (pc := 22) rfl dX14_findByte_22

def C_X14_findByte : xC := fun av S Q => ∃ (M : Nat) (s : Nat → Value) (lo hi : Int) (nn ls : Bool) (n : Nat) (cs : Nat → vC) (f e b : Nat) (t : Nat → Nat), av = [.ref M, .int (nI f), .int (nI e), .int (nI b)] ∧ f ≤ 400 ∧ e ≤ 400 ∧ b < 256 ∧ ms S.1 M s lo hi nn ls n cs ∧ tpR S.1 M t ∧ ((∀ k, f ≤ k → k < e → t k ≠ b) → Q (some (.int (-1))) S) ∧ ∀ k, f ≤ k → k < e → t k = b → (∀ j, f ≤ j → j < k → t j ≠ b) → Q (some (.int (nI k))) S
def cn_X14_findByte : Nat × Nat × Nat × Nat → List (Nat × Value) := fun v => [(0, .ref v.1), (2, .int (nI v.2.1)), (3, .int (nI v.2.2.1)), (4, .int (nI v.2.2.2))]
def I_X14_findByte (Q : xQ) : Nat → Nat × Nat × Nat × Nat → xS → Prop := fun m v S => match v with
  | (M, e, b, k) => ∃ (s : Nat → Value) (lo hi : Int) (nn ls : Bool) (n : Nat) (cs : Nat → vC) (f : Nat) (t : Nat → Nat), m = 400 - k ∧ f ≤ k ∧ k ≤ 400 ∧ e ≤ 400 ∧ b < 256 ∧ ms S.1 M s lo hi nn ls n cs ∧ tpR S.1 M t ∧ (∀ j, f ≤ j → j < k → t j ≠ b) ∧ ((∀ k, f ≤ k → k < e → t k ≠ b) → Q (some (.int (-1))) S) ∧ ∀ k, f ≤ k → k < e → t k = b → (∀ j, f ≤ j → j < k → t j ≠ b) → Q (some (.int (nI k))) S
theorem cM_X14_findByte (G : xG) (l : Launch) : xM G l yX14_findByte cX14_findByte 5 (some FieldType.int) r_X14_findByte C_X14_findByte := by
  refine xM_of (fun Q => b_X14_findByte_0 Q (xInv cn_X14_findByte (I_X14_findByte Q))) RX14 false (fun Q => s_X14_findByte_0 G l Q _ (xW.lp (b_X14_findByte_3 Q) (fun K hK => s_X14_findByte_3 G l Q K hK) ?_)) (by decide) rfl (by decide) ?_
  · rintro m ⟨M, e, b, k⟩ ⟨h, S2⟩ ⟨s, lo, hi, nn, ls, n, cs, f, t, rfl, hf, hk, he, hb, w, ht, hj, h1, h2⟩
    dsimp only at *
    have c1 : cn_X14_findByte (M, e, b, k) = [(0, .ref M), (2, .int (nI e)), (3, .int (nI b)), (4, .int (nI k))] := rfl
    rw [c1]
    have q1 := nc_le (a := e) (b := k) (by omega) (by omega)
    have tk := ht.2 k
    have q2 : nI (t k) = nI b ↔ t k = b := nI_eq (by omega) (by omega)
    simp only [q_c, x_iload, x_lload, x_aload, q_istore, q_lstore, q_astore, q_astore2, x_iinc, q_iadd, q_isub, q_imul, q_iand, q_ior, q_ixor, q_ladd, q_lsub, q_lmul, q_land, q_lor, q_lxor, q_idiv, q_irem, q_ldiv, q_lrem, q_ineg, q_lneg, q_ishl, q_ishr, q_iushr, q_lshl, q_lshr, q_lushr, q_i2l, q_l2i, q_i2b, q_i2c, q_lcmp, q_if_eq, q_if_ne, q_if_lt, q_if_ge, q_if_gt, q_if_le, q_icmp_eq, q_icmp_ne, q_icmp_lt, q_icmp_ge, q_icmp_gt, q_icmp_le, q_dup, q_pop, q_dup_x1, q_dup2, x_iret, x_zret, x_lret, x_aret, x_vret, x_call, x_callv, x_calli, x_oinit, x_mmax, x_mmin, x_mabs, x_mmaxL, x_mminL, x_mabsL, lg_cmp_ge, lg_cmp_le, lg_cmp_gt, lg_cmp_lt, lg_cmp_eq, xlk, q_xs1, q_xs2, lv_args, Value.category, List.filter_cons, List.filter_nil, Nat.reduceAdd, Nat.reduceBEq, Nat.reduceEqDiff, Nat.reduceSub, Nat.sub_zero, beq_self_eq_true, Bool.not_true, Bool.not_false, Bool.and_true, Bool.and_false, Bool.true_and, Bool.false_and, reduceIte, reduceCtorEq, Bool.false_eq_true, Nat.one_ne_zero, Nat.zero_ne_one, Nat.zero_add, Option.toList_some, Option.toList_none, List.nil_append, List.cons_append, List.take_succ_cons, List.take_zero, List.take_nil, List.drop_succ_cons, List.drop_zero, List.length_cons, List.length_nil, List.reverse_cons, List.reverse_nil, List.head?_cons, List.map_cons, List.map_nil, List.sum_cons, List.sum_nil, true_and, and_true, List.getElem?_cons_zero, List.getElem?_cons_succ, Prod.eta, x_iast, x_bald, x_bast, x_last, x_alen, xup_s, xup_a1, xup_1a, xup_uu, nr_i, nr_l, nr_o, nr_a, ft_i, ft_l, ft_o, ft_a, Nat.reduceLT, i_cl0, i_cl1, i_n1, i_m1, List.set_cons_zero, List.set_cons_succ, Nat.reduceLeDiff, Nat.le_refl, Nat.zero_le, Nat.add_zero, x_no, x_ifnull, x_ifnonnull, x_acmp_eq, x_acmp_ne, x_swl, x_tsw, x_castC, true_or, or_true, nr_z, ft_z, nr_z0, nr_z1, ft_z0, ft_z1, nr_on, nr_an, ft_on, ft_an, b_X14_findByte_3, q1, ms.s6 w, ms.s7 w, ms.s9 w, ms.s15 w, ms.s23 w, ms.s24 w, ms.s25 w, ms.s26 w, ms.s8 w, ms.s10 w, ms.t6 w, ms.t9 w, ms.t15 w, ms.t23 w, ms.t24 w, ms.t7 w, ms.t7a w, ms.t7b w, ms.t25 w, ms.t25a w, ms.t25b w, ms.t26 w, ms.t26a w, ms.t26b w]
    refine ⟨fun a => h1 (fun j j1 j2 => hj j j1 (by omega)), fun a => ?_⟩
    simp only [q_c, x_iload, x_lload, x_aload, q_istore, q_lstore, q_astore, q_astore2, x_iinc, q_iadd, q_isub, q_imul, q_iand, q_ior, q_ixor, q_ladd, q_lsub, q_lmul, q_land, q_lor, q_lxor, q_idiv, q_irem, q_ldiv, q_lrem, q_ineg, q_lneg, q_ishl, q_ishr, q_iushr, q_lshl, q_lshr, q_lushr, q_i2l, q_l2i, q_i2b, q_i2c, q_lcmp, q_if_eq, q_if_ne, q_if_lt, q_if_ge, q_if_gt, q_if_le, q_icmp_eq, q_icmp_ne, q_icmp_lt, q_icmp_ge, q_icmp_gt, q_icmp_le, q_dup, q_pop, q_dup_x1, q_dup2, x_iret, x_zret, x_lret, x_aret, x_vret, x_call, x_callv, x_calli, x_oinit, x_mmax, x_mmin, x_mabs, x_mmaxL, x_mminL, x_mabsL, lg_cmp_ge, lg_cmp_le, lg_cmp_gt, lg_cmp_lt, lg_cmp_eq, xlk, q_xs1, q_xs2, lv_args, Value.category, List.filter_cons, List.filter_nil, Nat.reduceAdd, Nat.reduceBEq, Nat.reduceEqDiff, Nat.reduceSub, Nat.sub_zero, beq_self_eq_true, Bool.not_true, Bool.not_false, Bool.and_true, Bool.and_false, Bool.true_and, Bool.false_and, reduceIte, reduceCtorEq, Bool.false_eq_true, Nat.one_ne_zero, Nat.zero_ne_one, Nat.zero_add, Option.toList_some, Option.toList_none, List.nil_append, List.cons_append, List.take_succ_cons, List.take_zero, List.take_nil, List.drop_succ_cons, List.drop_zero, List.length_cons, List.length_nil, List.reverse_cons, List.reverse_nil, List.head?_cons, List.map_cons, List.map_nil, List.sum_cons, List.sum_nil, true_and, and_true, List.getElem?_cons_zero, List.getElem?_cons_succ, Prod.eta, x_iast, x_bald, x_bast, x_last, x_alen, xup_s, xup_a1, xup_1a, xup_uu, nr_i, nr_l, nr_o, nr_a, ft_i, ft_l, ft_o, ft_a, Nat.reduceLT, i_cl0, i_cl1, i_n1, i_m1, List.set_cons_zero, List.set_cons_succ, Nat.reduceLeDiff, Nat.le_refl, Nat.zero_le, Nat.add_zero, x_no, x_ifnull, x_ifnonnull, x_acmp_eq, x_acmp_ne, x_swl, x_tsw, x_castC, true_or, or_true, nr_z, ft_z, nr_z0, nr_z1, ft_z0, ft_z1, nr_on, nr_an, ft_on, ft_an, tpR.ld ht (show k < 400 by omega), q2]
    exact ⟨fun d => xInvL.mk (400 - (k + 1)) (M, e, b, k + 1) (by omega) ⟨rfl, rfl, rfl, rfl, trivial⟩ ⟨s, lo, hi, nn, ls, n, cs, f, t, rfl, by omega, by omega, he, hb, w, ht, fun j j1 j2 => by
      rcases Nat.lt_or_ge j k with c | c
      · exact hj j j1 c
      · rw [show j = k by omega]; exact d, h1, h2⟩, fun d => h2 k hf (by omega) d hj⟩
  · rintro av ⟨h, S2⟩ Q ⟨M, s, lo, hi, nn, ls, n, cs, f, e, b, t, rfl, hf, he, hb, w, ht, h1, h2⟩
    dsimp only at *
    refine ⟨Nat.le_of_ble_eq_true rfl, ?_⟩
    simp only [q_c, x_iload, x_lload, x_aload, q_istore, q_lstore, q_astore, q_astore2, x_iinc, q_iadd, q_isub, q_imul, q_iand, q_ior, q_ixor, q_ladd, q_lsub, q_lmul, q_land, q_lor, q_lxor, q_idiv, q_irem, q_ldiv, q_lrem, q_ineg, q_lneg, q_ishl, q_ishr, q_iushr, q_lshl, q_lshr, q_lushr, q_i2l, q_l2i, q_i2b, q_i2c, q_lcmp, q_if_eq, q_if_ne, q_if_lt, q_if_ge, q_if_gt, q_if_le, q_icmp_eq, q_icmp_ne, q_icmp_lt, q_icmp_ge, q_icmp_gt, q_icmp_le, q_dup, q_pop, q_dup_x1, q_dup2, x_iret, x_zret, x_lret, x_aret, x_vret, x_call, x_callv, x_calli, x_oinit, x_mmax, x_mmin, x_mabs, x_mmaxL, x_mminL, x_mabsL, lg_cmp_ge, lg_cmp_le, lg_cmp_gt, lg_cmp_lt, lg_cmp_eq, xlk, q_xs1, q_xs2, lv_args, Value.category, List.filter_cons, List.filter_nil, Nat.reduceAdd, Nat.reduceBEq, Nat.reduceEqDiff, Nat.reduceSub, Nat.sub_zero, beq_self_eq_true, Bool.not_true, Bool.not_false, Bool.and_true, Bool.and_false, Bool.true_and, Bool.false_and, reduceIte, reduceCtorEq, Bool.false_eq_true, Nat.one_ne_zero, Nat.zero_ne_one, Nat.zero_add, Option.toList_some, Option.toList_none, List.nil_append, List.cons_append, List.take_succ_cons, List.take_zero, List.take_nil, List.drop_succ_cons, List.drop_zero, List.length_cons, List.length_nil, List.reverse_cons, List.reverse_nil, List.head?_cons, List.map_cons, List.map_nil, List.sum_cons, List.sum_nil, true_and, and_true, List.getElem?_cons_zero, List.getElem?_cons_succ, Prod.eta, x_iast, x_bald, x_bast, x_last, x_alen, xup_s, xup_a1, xup_1a, xup_uu, nr_i, nr_l, nr_o, nr_a, ft_i, ft_l, ft_o, ft_a, Nat.reduceLT, i_cl0, i_cl1, i_n1, i_m1, List.set_cons_zero, List.set_cons_succ, Nat.reduceLeDiff, Nat.le_refl, Nat.zero_le, Nat.add_zero, x_no, x_ifnull, x_ifnonnull, x_acmp_eq, x_acmp_ne, x_swl, x_tsw, x_castC, true_or, or_true, nr_z, ft_z, nr_z0, nr_z1, ft_z0, ft_z1, nr_on, nr_an, ft_on, ft_an, b_X14_findByte_0]
    exact xInv.mk (400 - f) (M, e, b, f) ⟨rfl, rfl, rfl, rfl, trivial⟩ ⟨s, lo, hi, nn, ls, n, cs, f, t, rfl, Nat.le_refl _, hf, he, hb, w, ht, fun j j1 j2 => absurd j2 (by omega), h1, h2⟩
theorem nuR.g1 {h : xH} {r : Nat} {b : Bool} {p q : Nat} {e : Int} {k : xK} {lv : List (Nat × Value)} {R : List Value} {T : Nat × Nat × Nat} (n : nuR h r b p q e) : x_get 12 1 k lv (.ref r :: R) (h, T) = k lv (.ref (r + 1) :: R) (h, T) := q_get n.1 rfl
theorem nuR.g2 {h : xH} {r : Nat} {b : Bool} {p q : Nat} {e : Int} {k : xK} {lv : List (Nat × Value)} {R : List Value} {T : Nat × Nat × Nat} (n : nuR h r b p q e) : x_get 12 2 k lv (.ref r :: R) (h, T) = k lv (.ref (r + 3) :: R) (h, T) := q_get n.1 rfl
section GR
variable {h : xH} {T : Nat × Nat × Nat} {K : xQ} {r F A : Nat} {b : Bool} {p q : Nat} {e : Int}
theorem k_grp (n : nuR h r b p q e) (h1 : 0 < F) (h2 : F < 65537) (h3 : A < 65536) (h4 : p * F + A < 65536 ^ 640) (c : ∀ h2, xoff h2 h (r + 1) (r + 3) → nuR h2 r b (p * F + A) q e → K none (h2, T)) : (∃ b fs, some (Value.ref (r + 1)) = some (.ref b) ∧ h b = some (.inr (11, fs))) ∧ C_X12_grow [.ref (r + 1), .int (nI F), .int (nI A)] (h, T) K := by
  obtain ⟨x, m, y1, y2⟩ := id n.2.1
  refine ⟨⟨_, _, rfl, y1.1⟩, r + 1, p, F, A, rfl, n.2.1, h1, h2, h3, h4, fun h2 o2 v2 => ?_⟩
  exact c h2 o2 ⟨(o2 r (by omega)).trans n.1, v2, n.2.2.1.off o2 (by omega), n.2.2.2⟩
theorem k_grq (n : nuR h r b p q e) (h1 : 0 < F) (h2 : F < 65537) (h3 : A < 65536) (h4 : q * F + A < 65536 ^ 640) (c : ∀ h2, xoff h2 h (r + 3) (r + 5) → nuR h2 r b p (q * F + A) e → K none (h2, T)) : (∃ b fs, some (Value.ref (r + 3)) = some (.ref b) ∧ h b = some (.inr (11, fs))) ∧ C_X12_grow [.ref (r + 3), .int (nI F), .int (nI A)] (h, T) K := by
  obtain ⟨x, m, y1, y2⟩ := id n.2.2.1
  refine ⟨⟨_, _, rfl, y1.1⟩, r + 3, q, F, A, rfl, n.2.2.1, h1, h2, h3, h4, fun h2 o2 v2 => ?_⟩
  exact c h2 o2 ⟨(o2 r (by omega)).trans n.1, n.2.1.off o2 (by omega), v2, n.2.2.2⟩
end GR
theorem dX14_tens_0 : decode cX14_tens 0 = .ok (.iconst 0, 1) := by decide +kernel
theorem dX14_tens_1 : decode cX14_tens 1 = .ok (.istore_n 2, 1) := by decide +kernel
theorem dX14_tens_2 : decode cX14_tens 2 = .ok (.iload_n 2, 1) := by decide +kernel
theorem dX14_tens_3 : decode cX14_tens 3 = .ok (.iload_n 1, 1) := by decide +kernel
theorem dX14_tens_4 : decode cX14_tens 4 = .ok (.if_icmp .ge 19, 3) := by decide +kernel
theorem dX14_tens_7 : decode cX14_tens 7 = .ok (.aload_n 0, 1) := by decide +kernel
theorem dX14_tens_8 : decode cX14_tens 8 = .ok (.getfield 18, 3) := by decide +kernel
theorem dX14_tens_11 : decode cX14_tens 11 = .ok (.bipush 10, 2) := by decide +kernel
theorem dX14_tens_13 : decode cX14_tens 13 = .ok (.iconst 0, 1) := by decide +kernel
theorem dX14_tens_14 : decode cX14_tens 14 = .ok (.invokevirtual 379, 3) := by decide +kernel
theorem dX14_tens_17 : decode cX14_tens 17 = .ok (.iinc 2 1, 3) := by decide +kernel
theorem dX14_tens_20 : decode cX14_tens 20 = .ok (.goto (-18), 3) := by decide +kernel
theorem dX14_tens_23 : decode cX14_tens 23 = .ok (.iconst 0, 1) := by decide +kernel
theorem dX14_tens_24 : decode cX14_tens 24 = .ok (.istore_n 2, 1) := by decide +kernel
theorem dX14_tens_25 : decode cX14_tens 25 = .ok (.iload_n 2, 1) := by decide +kernel
theorem dX14_tens_26 : decode cX14_tens 26 = .ok (.iload_n 1, 1) := by decide +kernel
theorem dX14_tens_27 : decode cX14_tens 27 = .ok (.ineg, 1) := by decide +kernel
theorem dX14_tens_28 : decode cX14_tens 28 = .ok (.if_icmp .ge 19, 3) := by decide +kernel
theorem dX14_tens_31 : decode cX14_tens 31 = .ok (.aload_n 0, 1) := by decide +kernel
theorem dX14_tens_32 : decode cX14_tens 32 = .ok (.getfield 1, 3) := by decide +kernel
theorem dX14_tens_35 : decode cX14_tens 35 = .ok (.bipush 10, 2) := by decide +kernel
theorem dX14_tens_37 : decode cX14_tens 37 = .ok (.iconst 0, 1) := by decide +kernel
theorem dX14_tens_38 : decode cX14_tens 38 = .ok (.invokevirtual 379, 3) := by decide +kernel
theorem dX14_tens_41 : decode cX14_tens 41 = .ok (.iinc 2 1, 3) := by decide +kernel
theorem dX14_tens_44 : decode cX14_tens 44 = .ok (.goto (-19), 3) := by decide +kernel
theorem dX14_tens_47 : decode cX14_tens 47 = .ok (.return_, 1) := by decide +kernel
abbrev r_X14_tens : Room := { frames := 1, cells := 0, slots := 0, locals := 27 }
abbrev m_X14_tens : xMd := (cX14_tens, RX14, 3, none, false, r_X14_tens)
def b_X14_tens_0 (Q : xQ) (K2 : xK) (K25 : xK) : xK := x_c (.int 0) <| x_istore 2 <| K2
def b_X14_tens_2 (Q : xQ) (K2 : xK) (K25 : xK) : xK := x_iload 2 <| x_iload 1 <| x_icmp_ge (x_c (.int 0) <| x_istore 2 <| K25) <| x_aload 0 <| x_get 12 1 <| x_c (.int 10) <| x_c (.int 0) <| x_callv 11 C_X12_grow 3 0 0 <| x_iinc 2 1 <| K2
def b_X14_tens_25 (Q : xQ) (K2 : xK) (K25 : xK) : xK := x_iload 2 <| x_iload 1 <| x_ineg <| x_icmp_ge (x_vret Q) <| x_aload 0 <| x_get 12 2 <| x_c (.int 10) <| x_c (.int 0) <| x_callv 11 C_X12_grow 3 0 0 <| x_iinc 2 1 <| K25
theorem s_X14_tens_0 (G : xG) (l : Launch) (Q : xQ) (K2 : xK) (K25 : xK) (h2 : xW G l m_X14_tens xX0 (xPm G Q r_X14_tens) 2 K2) (h25 : xW G l m_X14_tens xX0 (xPm G Q r_X14_tens) 25 K25) : xW G l m_X14_tens xX0 (xPm G Q r_X14_tens) 0 (b_X14_tens_0 Q K2 K25) := xo_iconst (pc := 0) dX14_tens_0 (by decide) <| xo_istore_n (pc := 1) (i := 2) dX14_tens_1 rfl (by decide) <| h2
theorem s_X14_tens_2 (G : xG) (l : Launch) (Q : xQ) (K2 : xK) (K25 : xK) (h2 : xW G l m_X14_tens xX0 (xPm G Q r_X14_tens) 2 K2) (h25 : xW G l m_X14_tens xX0 (xPm G Q r_X14_tens) 25 K25) : xW G l m_X14_tens xX0 (xPm G Q r_X14_tens) 2 (b_X14_tens_2 Q K2 K25) := xo_iload_n (pc := 2) (i := 2) dX14_tens_2 rfl <| xo_iload_n (pc := 3) (i := 1) dX14_tens_3 rfl <| xo_icmp_ge (pc := 4) (tgt := 23) dX14_tens_4 (by decide) (xo_iconst (pc := 23) dX14_tens_23 (by decide) <| xo_istore_n (pc := 24) (i := 2) dX14_tens_24 rfl (by decide) <| h25) <| xo_aload_n (pc := 7) (i := 0) dX14_tens_7 rfl <| xo_getN (pc := 8) (ci := 12) (i := 1) rfl ok12 (by decide) dX14_tens_8 kw1187 <| xo_bipush (pc := 11) dX14_tens_11 (by decide) <| xo_iconst (pc := 13) dX14_tens_13 (by decide) <| xo_callV (pc := 14) (np := 2) (ci := 11) rfl (cM_X12_grow G l) dX14_tens_14 kw1451 kw1707 kw1449 kw1450 kw14 (by decide +kernel) (by decide) <| xo_iinc (pc := 17) dX14_tens_17 (by decide) <| xo_goto (pc := 20) (tgt := 2) dX14_tens_20 (by decide) <| h2
theorem s_X14_tens_25 (G : xG) (l : Launch) (Q : xQ) (K2 : xK) (K25 : xK) (h2 : xW G l m_X14_tens xX0 (xPm G Q r_X14_tens) 2 K2) (h25 : xW G l m_X14_tens xX0 (xPm G Q r_X14_tens) 25 K25) : xW G l m_X14_tens xX0 (xPm G Q r_X14_tens) 25 (b_X14_tens_25 Q K2 K25) := xo_iload_n (pc := 25) (i := 2) dX14_tens_25 rfl <| xo_iload_n (pc := 26) (i := 1) dX14_tens_26 rfl <| xo_ineg (pc := 27) dX14_tens_27 <| xo_icmp_ge (pc := 28) (tgt := 47) dX14_tens_28 (by decide) (xo_vret (pc := 47) rfl dX14_tens_47) <| xo_aload_n (pc := 31) (i := 0) dX14_tens_31 rfl <| xo_getN (pc := 32) (ci := 12) (i := 2) rfl ok12 (by decide) dX14_tens_32 kw1188 <| xo_bipush (pc := 35) dX14_tens_35 (by decide) <| xo_iconst (pc := 37) dX14_tens_37 (by decide) <| xo_callV (pc := 38) (np := 2) (ci := 11) rfl (cM_X12_grow G l) dX14_tens_38 kw1451 kw1707 kw1449 kw1450 kw14 (by decide +kernel) (by decide) <| xo_iinc (pc := 41) dX14_tens_41 (by decide) <| xo_goto (pc := 44) (tgt := 25) dX14_tens_44 (by decide) <| h25

def C_X14_tens : xC := fun av S Q => ∃ (r : Nat) (b : Bool) (p q : Nat) (e m : Int), av = [.ref r, .int (iZ m)] ∧ -100000 ≤ m ∧ m ≤ 100000 ∧ nuR S.1 r b p q e ∧ p * 10 ^ m.toNat < 65536 ^ 640 ∧ q * 10 ^ (-m).toNat < 65536 ^ 640 ∧ ∀ h', xoff h' S.1 r (r + 5) → nuR h' r b (p * 10 ^ m.toNat) (q * 10 ^ (-m).toNat) e → Q none (h', S.2)
def cn_X14_tens : Nat × Int × Nat → List (Nat × Value) := fun v => [(0, .ref v.1), (1, .int (iZ v.2.1)), (2, .int (nI v.2.2))]
def I_X14_tens25 (Q : xQ) : Nat → Nat × Int × Nat → xS → Prop := fun c v S => match v with
  | (r, m, k) => ∃ (b : Bool) (p q : Nat) (e : Int), -100000 ≤ m ∧ m ≤ 100000 ∧ k ≤ (-m).toNat ∧ c = (-m).toNat - k ∧ nuR S.1 r b p (q * 10 ^ k) e ∧ q * 10 ^ (-m).toNat < 65536 ^ 640 ∧ ∀ h', xoff h' S.1 r (r + 5) → nuR h' r b p (q * 10 ^ (-m).toNat) e → Q none (h', S.2)
def I_X14_tens2 (Q : xQ) : Nat → Nat × Int × Nat → xS → Prop := fun c v S => match v with
  | (r, m, k) => ∃ (b : Bool) (p q : Nat) (e : Int), -100000 ≤ m ∧ m ≤ 100000 ∧ k ≤ m.toNat ∧ c = m.toNat - k ∧ nuR S.1 r b (p * 10 ^ k) q e ∧ p * 10 ^ m.toNat < 65536 ^ 640 ∧ q * 10 ^ (-m).toNat < 65536 ^ 640 ∧ ∀ h', xoff h' S.1 r (r + 5) → nuR h' r b (p * 10 ^ m.toNat) (q * 10 ^ (-m).toNat) e → Q none (h', S.2)
theorem ten_lt {p k m : Nat} (hk : k < m) (h : p * 10 ^ m < 65536 ^ 640) : p * 10 ^ k * 10 + 0 < 65536 ^ 640 := by
  refine Nat.lt_of_le_of_lt ?_ h
  rw [Nat.add_zero, Nat.mul_assoc, ← Nat.pow_succ]
  exact Nat.mul_le_mul_left _ (Nat.pow_le_pow_right (by decide) hk)
theorem cM_X14_tens (G : xG) (l : Launch) : xM G l yX14_tens cX14_tens 3 none r_X14_tens C_X14_tens := by
  have L2 : ∀ Q K2, xW G l m_X14_tens xX0 (xPm G Q r_X14_tens) 2 K2 → xW G l m_X14_tens xX0 (xPm G Q r_X14_tens) 25 (xInv cn_X14_tens (I_X14_tens25 Q)) := by
    intro Q K2 hK2
    refine xW.lp (fun K => b_X14_tens_25 Q K2 K) (fun K hK => s_X14_tens_25 G l Q K2 K hK2 hK) ?_
    rintro c ⟨r, m, k⟩ ⟨h, S2⟩ ⟨b, p, q, e, m1, m2, hk, rfl, n, bq, hQ⟩
    dsimp only at *
    have c1 : cn_X14_tens (r, m, k) = [(0, .ref r), (1, .int (iZ m)), (2, .int (nI k))] := rfl
    rw [c1]
    have en : -iZ m = iZ (-m) := (Int32.ofInt_neg m).symm
    have q1 : iZ (-m) ≤ nI k ↔ -m ≤ (k : Int) := by rw [i_le, iZ_toInt (by omega) (by omega), nI_toInt (by omega)]
    simp only [q_c, x_iload, x_lload, x_aload, q_istore, q_lstore, q_astore, q_astore2, x_iinc, q_iadd, q_isub, q_imul, q_iand, q_ior, q_ixor, q_ladd, q_lsub, q_lmul, q_land, q_lor, q_lxor, q_idiv, q_irem, q_ldiv, q_lrem, q_ineg, q_lneg, q_ishl, q_ishr, q_iushr, q_lshl, q_lshr, q_lushr, q_i2l, q_l2i, q_i2b, q_i2c, q_lcmp, q_if_eq, q_if_ne, q_if_lt, q_if_ge, q_if_gt, q_if_le, q_icmp_eq, q_icmp_ne, q_icmp_lt, q_icmp_ge, q_icmp_gt, q_icmp_le, q_dup, q_pop, q_dup_x1, q_dup2, x_iret, x_zret, x_lret, x_aret, x_vret, x_call, x_callv, x_calli, x_oinit, x_mmax, x_mmin, x_mabs, x_mmaxL, x_mminL, x_mabsL, lg_cmp_ge, lg_cmp_le, lg_cmp_gt, lg_cmp_lt, lg_cmp_eq, xlk, q_xs1, q_xs2, lv_args, Value.category, List.filter_cons, List.filter_nil, Nat.reduceAdd, Nat.reduceBEq, Nat.reduceEqDiff, Nat.reduceSub, Nat.sub_zero, beq_self_eq_true, Bool.not_true, Bool.not_false, Bool.and_true, Bool.and_false, Bool.true_and, Bool.false_and, reduceIte, reduceCtorEq, Bool.false_eq_true, Nat.one_ne_zero, Nat.zero_ne_one, Nat.zero_add, Option.toList_some, Option.toList_none, List.nil_append, List.cons_append, List.take_succ_cons, List.take_zero, List.take_nil, List.drop_succ_cons, List.drop_zero, List.length_cons, List.length_nil, List.reverse_cons, List.reverse_nil, List.head?_cons, List.map_cons, List.map_nil, List.sum_cons, List.sum_nil, true_and, and_true, List.getElem?_cons_zero, List.getElem?_cons_succ, Prod.eta, x_iast, x_bald, x_bast, x_last, x_alen, xup_s, xup_a1, xup_1a, xup_uu, nr_i, nr_l, nr_o, nr_a, ft_i, ft_l, ft_o, ft_a, Nat.reduceLT, i_cl0, i_cl1, i_n1, i_m1, List.set_cons_zero, List.set_cons_succ, Nat.reduceLeDiff, Nat.le_refl, Nat.zero_le, Nat.add_zero, x_no, x_ifnull, x_ifnonnull, x_acmp_eq, x_acmp_ne, x_swl, x_tsw, x_castC, true_or, or_true, nr_z, ft_z, nr_z0, nr_z1, ft_z0, ft_z1, nr_on, nr_an, ft_on, ft_an, b_X14_tens_25, en, q1, n.g2]
    refine ⟨fun a => ?_, fun a => ?_⟩
    · have ke : k = (-m).toNat := by omega
      rw [ke] at n
      exact hQ h xoff_rf n
    · refine k_grq (F := 10) (A := 0) n (by decide) (by decide) (by decide) (ten_lt (by omega) bq) (fun h2 o2 n2 => ?_)
      try simp only [q_c, x_iload, x_lload, x_aload, q_istore, q_lstore, q_astore, q_astore2, x_iinc, q_iadd, q_isub, q_imul, q_iand, q_ior, q_ixor, q_ladd, q_lsub, q_lmul, q_land, q_lor, q_lxor, q_idiv, q_irem, q_ldiv, q_lrem, q_ineg, q_lneg, q_ishl, q_ishr, q_iushr, q_lshl, q_lshr, q_lushr, q_i2l, q_l2i, q_i2b, q_i2c, q_lcmp, q_if_eq, q_if_ne, q_if_lt, q_if_ge, q_if_gt, q_if_le, q_icmp_eq, q_icmp_ne, q_icmp_lt, q_icmp_ge, q_icmp_gt, q_icmp_le, q_dup, q_pop, q_dup_x1, q_dup2, x_iret, x_zret, x_lret, x_aret, x_vret, x_call, x_callv, x_calli, x_oinit, x_mmax, x_mmin, x_mabs, x_mmaxL, x_mminL, x_mabsL, lg_cmp_ge, lg_cmp_le, lg_cmp_gt, lg_cmp_lt, lg_cmp_eq, xlk, q_xs1, q_xs2, lv_args, Value.category, List.filter_cons, List.filter_nil, Nat.reduceAdd, Nat.reduceBEq, Nat.reduceEqDiff, Nat.reduceSub, Nat.sub_zero, beq_self_eq_true, Bool.not_true, Bool.not_false, Bool.and_true, Bool.and_false, Bool.true_and, Bool.false_and, reduceIte, reduceCtorEq, Bool.false_eq_true, Nat.one_ne_zero, Nat.zero_ne_one, Nat.zero_add, Option.toList_some, Option.toList_none, List.nil_append, List.cons_append, List.take_succ_cons, List.take_zero, List.take_nil, List.drop_succ_cons, List.drop_zero, List.length_cons, List.length_nil, List.reverse_cons, List.reverse_nil, List.head?_cons, List.map_cons, List.map_nil, List.sum_cons, List.sum_nil, true_and, and_true, List.getElem?_cons_zero, List.getElem?_cons_succ, Prod.eta, x_iast, x_bald, x_bast, x_last, x_alen, xup_s, xup_a1, xup_1a, xup_uu, nr_i, nr_l, nr_o, nr_a, ft_i, ft_l, ft_o, ft_a, Nat.reduceLT, i_cl0, i_cl1, i_n1, i_m1, List.set_cons_zero, List.set_cons_succ, Nat.reduceLeDiff, Nat.le_refl, Nat.zero_le, Nat.add_zero, x_no, x_ifnull, x_ifnonnull, x_acmp_eq, x_acmp_ne, x_swl, x_tsw, x_castC, true_or, or_true, nr_z, ft_z, nr_z0, nr_z1, ft_z0, ft_z1, nr_on, nr_an, ft_on, ft_an]
      rw [Nat.add_zero, Nat.mul_assoc, ← Nat.pow_succ] at n2
      exact xInvL.mk ((-m).toNat - (k + 1)) (r, m, k + 1) (by omega) ⟨rfl, rfl, rfl, trivial⟩ ⟨b, p, q, e, m1, m2, by omega, rfl, n2, bq, fun h3 o3 n3 => hQ h3 (xoff_tr o3 (xoff_wd o2 (by omega) (by omega))) n3⟩
  have L1 : ∀ Q, xW G l m_X14_tens xX0 (xPm G Q r_X14_tens) 2 (xInv cn_X14_tens (I_X14_tens2 Q)) := by
    intro Q
    refine xW.lp (fun K => b_X14_tens_2 Q K (xInv cn_X14_tens (I_X14_tens25 Q))) (fun K hK => s_X14_tens_2 G l Q K _ hK (L2 Q K hK)) ?_
    rintro c ⟨r, m, k⟩ ⟨h, S2⟩ ⟨b, p, q, e, m1, m2, hk, rfl, n, bp, bq, hQ⟩
    dsimp only at *
    have c1 : cn_X14_tens (r, m, k) = [(0, .ref r), (1, .int (iZ m)), (2, .int (nI k))] := rfl
    rw [c1]
    have q1 : iZ m ≤ nI k ↔ m ≤ (k : Int) := by rw [i_le, iZ_toInt (by omega) (by omega), nI_toInt (by omega)]
    simp only [q_c, x_iload, x_lload, x_aload, q_istore, q_lstore, q_astore, q_astore2, x_iinc, q_iadd, q_isub, q_imul, q_iand, q_ior, q_ixor, q_ladd, q_lsub, q_lmul, q_land, q_lor, q_lxor, q_idiv, q_irem, q_ldiv, q_lrem, q_ineg, q_lneg, q_ishl, q_ishr, q_iushr, q_lshl, q_lshr, q_lushr, q_i2l, q_l2i, q_i2b, q_i2c, q_lcmp, q_if_eq, q_if_ne, q_if_lt, q_if_ge, q_if_gt, q_if_le, q_icmp_eq, q_icmp_ne, q_icmp_lt, q_icmp_ge, q_icmp_gt, q_icmp_le, q_dup, q_pop, q_dup_x1, q_dup2, x_iret, x_zret, x_lret, x_aret, x_vret, x_call, x_callv, x_calli, x_oinit, x_mmax, x_mmin, x_mabs, x_mmaxL, x_mminL, x_mabsL, lg_cmp_ge, lg_cmp_le, lg_cmp_gt, lg_cmp_lt, lg_cmp_eq, xlk, q_xs1, q_xs2, lv_args, Value.category, List.filter_cons, List.filter_nil, Nat.reduceAdd, Nat.reduceBEq, Nat.reduceEqDiff, Nat.reduceSub, Nat.sub_zero, beq_self_eq_true, Bool.not_true, Bool.not_false, Bool.and_true, Bool.and_false, Bool.true_and, Bool.false_and, reduceIte, reduceCtorEq, Bool.false_eq_true, Nat.one_ne_zero, Nat.zero_ne_one, Nat.zero_add, Option.toList_some, Option.toList_none, List.nil_append, List.cons_append, List.take_succ_cons, List.take_zero, List.take_nil, List.drop_succ_cons, List.drop_zero, List.length_cons, List.length_nil, List.reverse_cons, List.reverse_nil, List.head?_cons, List.map_cons, List.map_nil, List.sum_cons, List.sum_nil, true_and, and_true, List.getElem?_cons_zero, List.getElem?_cons_succ, Prod.eta, x_iast, x_bald, x_bast, x_last, x_alen, xup_s, xup_a1, xup_1a, xup_uu, nr_i, nr_l, nr_o, nr_a, ft_i, ft_l, ft_o, ft_a, Nat.reduceLT, i_cl0, i_cl1, i_n1, i_m1, List.set_cons_zero, List.set_cons_succ, Nat.reduceLeDiff, Nat.le_refl, Nat.zero_le, Nat.add_zero, x_no, x_ifnull, x_ifnonnull, x_acmp_eq, x_acmp_ne, x_swl, x_tsw, x_castC, true_or, or_true, nr_z, ft_z, nr_z0, nr_z1, ft_z0, ft_z1, nr_on, nr_an, ft_on, ft_an, b_X14_tens_2, q1, n.g1]
    refine ⟨fun a => ?_, fun a => ?_⟩
    · have ke : k = m.toNat := by omega
      rw [ke] at n
      exact xInv.mk ((-m).toNat) (r, m, 0) ⟨rfl, rfl, rfl, trivial⟩ ⟨b, p * 10 ^ m.toNat, q, e, m1, m2, by omega, rfl, by rw [Nat.pow_zero, Nat.mul_one]; exact n, bq, hQ⟩
    · refine k_grp (F := 10) (A := 0) n (by decide) (by decide) (by decide) (ten_lt (by omega) bp) (fun h2 o2 n2 => ?_)
      try simp only [q_c, x_iload, x_lload, x_aload, q_istore, q_lstore, q_astore, q_astore2, x_iinc, q_iadd, q_isub, q_imul, q_iand, q_ior, q_ixor, q_ladd, q_lsub, q_lmul, q_land, q_lor, q_lxor, q_idiv, q_irem, q_ldiv, q_lrem, q_ineg, q_lneg, q_ishl, q_ishr, q_iushr, q_lshl, q_lshr, q_lushr, q_i2l, q_l2i, q_i2b, q_i2c, q_lcmp, q_if_eq, q_if_ne, q_if_lt, q_if_ge, q_if_gt, q_if_le, q_icmp_eq, q_icmp_ne, q_icmp_lt, q_icmp_ge, q_icmp_gt, q_icmp_le, q_dup, q_pop, q_dup_x1, q_dup2, x_iret, x_zret, x_lret, x_aret, x_vret, x_call, x_callv, x_calli, x_oinit, x_mmax, x_mmin, x_mabs, x_mmaxL, x_mminL, x_mabsL, lg_cmp_ge, lg_cmp_le, lg_cmp_gt, lg_cmp_lt, lg_cmp_eq, xlk, q_xs1, q_xs2, lv_args, Value.category, List.filter_cons, List.filter_nil, Nat.reduceAdd, Nat.reduceBEq, Nat.reduceEqDiff, Nat.reduceSub, Nat.sub_zero, beq_self_eq_true, Bool.not_true, Bool.not_false, Bool.and_true, Bool.and_false, Bool.true_and, Bool.false_and, reduceIte, reduceCtorEq, Bool.false_eq_true, Nat.one_ne_zero, Nat.zero_ne_one, Nat.zero_add, Option.toList_some, Option.toList_none, List.nil_append, List.cons_append, List.take_succ_cons, List.take_zero, List.take_nil, List.drop_succ_cons, List.drop_zero, List.length_cons, List.length_nil, List.reverse_cons, List.reverse_nil, List.head?_cons, List.map_cons, List.map_nil, List.sum_cons, List.sum_nil, true_and, and_true, List.getElem?_cons_zero, List.getElem?_cons_succ, Prod.eta, x_iast, x_bald, x_bast, x_last, x_alen, xup_s, xup_a1, xup_1a, xup_uu, nr_i, nr_l, nr_o, nr_a, ft_i, ft_l, ft_o, ft_a, Nat.reduceLT, i_cl0, i_cl1, i_n1, i_m1, List.set_cons_zero, List.set_cons_succ, Nat.reduceLeDiff, Nat.le_refl, Nat.zero_le, Nat.add_zero, x_no, x_ifnull, x_ifnonnull, x_acmp_eq, x_acmp_ne, x_swl, x_tsw, x_castC, true_or, or_true, nr_z, ft_z, nr_z0, nr_z1, ft_z0, ft_z1, nr_on, nr_an, ft_on, ft_an]
      rw [Nat.add_zero, Nat.mul_assoc, ← Nat.pow_succ] at n2
      exact xInvL.mk (m.toNat - (k + 1)) (r, m, k + 1) (by omega) ⟨rfl, rfl, rfl, trivial⟩ ⟨b, p, q, e, m1, m2, by omega, rfl, n2, bp, bq, fun h3 o3 n3 => hQ h3 (xoff_tr o3 (xoff_wd o2 (by omega) (by omega))) n3⟩
  refine xM_of (fun Q => b_X14_tens_0 Q (xInv cn_X14_tens (I_X14_tens2 Q)) (xInv cn_X14_tens (I_X14_tens25 Q))) RX14 false (fun Q => s_X14_tens_0 G l Q _ _ (L1 Q) (L2 Q _ (L1 Q))) (by decide) rfl (by decide) ?_
  rintro av ⟨h, S2⟩ Q ⟨r, b, p, q, e, m, rfl, m1, m2, n, bp, bq, hQ⟩
  dsimp only at *
  refine ⟨Nat.le_of_ble_eq_true rfl, ?_⟩
  simp only [q_c, x_iload, x_lload, x_aload, q_istore, q_lstore, q_astore, q_astore2, x_iinc, q_iadd, q_isub, q_imul, q_iand, q_ior, q_ixor, q_ladd, q_lsub, q_lmul, q_land, q_lor, q_lxor, q_idiv, q_irem, q_ldiv, q_lrem, q_ineg, q_lneg, q_ishl, q_ishr, q_iushr, q_lshl, q_lshr, q_lushr, q_i2l, q_l2i, q_i2b, q_i2c, q_lcmp, q_if_eq, q_if_ne, q_if_lt, q_if_ge, q_if_gt, q_if_le, q_icmp_eq, q_icmp_ne, q_icmp_lt, q_icmp_ge, q_icmp_gt, q_icmp_le, q_dup, q_pop, q_dup_x1, q_dup2, x_iret, x_zret, x_lret, x_aret, x_vret, x_call, x_callv, x_calli, x_oinit, x_mmax, x_mmin, x_mabs, x_mmaxL, x_mminL, x_mabsL, lg_cmp_ge, lg_cmp_le, lg_cmp_gt, lg_cmp_lt, lg_cmp_eq, xlk, q_xs1, q_xs2, lv_args, Value.category, List.filter_cons, List.filter_nil, Nat.reduceAdd, Nat.reduceBEq, Nat.reduceEqDiff, Nat.reduceSub, Nat.sub_zero, beq_self_eq_true, Bool.not_true, Bool.not_false, Bool.and_true, Bool.and_false, Bool.true_and, Bool.false_and, reduceIte, reduceCtorEq, Bool.false_eq_true, Nat.one_ne_zero, Nat.zero_ne_one, Nat.zero_add, Option.toList_some, Option.toList_none, List.nil_append, List.cons_append, List.take_succ_cons, List.take_zero, List.take_nil, List.drop_succ_cons, List.drop_zero, List.length_cons, List.length_nil, List.reverse_cons, List.reverse_nil, List.head?_cons, List.map_cons, List.map_nil, List.sum_cons, List.sum_nil, true_and, and_true, List.getElem?_cons_zero, List.getElem?_cons_succ, Prod.eta, x_iast, x_bald, x_bast, x_last, x_alen, xup_s, xup_a1, xup_1a, xup_uu, nr_i, nr_l, nr_o, nr_a, ft_i, ft_l, ft_o, ft_a, Nat.reduceLT, i_cl0, i_cl1, i_n1, i_m1, List.set_cons_zero, List.set_cons_succ, Nat.reduceLeDiff, Nat.le_refl, Nat.zero_le, Nat.add_zero, x_no, x_ifnull, x_ifnonnull, x_acmp_eq, x_acmp_ne, x_swl, x_tsw, x_castC, true_or, or_true, nr_z, ft_z, nr_z0, nr_z1, ft_z0, ft_z1, nr_on, nr_an, ft_on, ft_an, b_X14_tens_0]
  exact xInv.mk m.toNat (r, m, 0) ⟨rfl, rfl, rfl, trivial⟩ ⟨b, p, q, e, m1, m2, by omega, rfl, by rw [Nat.pow_zero, Nat.mul_one]; exact n, bp, bq, hQ⟩
theorem dX14_setTens_0 : decode cX14_setTens 0 = .ok (.aload_n 1, 1) := by decide +kernel
theorem dX14_setTens_1 : decode cX14_setTens 1 = .ok (.lconst 1, 1) := by decide +kernel
theorem dX14_setTens_2 : decode cX14_setTens 2 = .ok (.invokevirtual 294, 3) := by decide +kernel
theorem dX14_setTens_5 : decode cX14_setTens 5 = .ok (.aload_n 1, 1) := by decide +kernel
theorem dX14_setTens_6 : decode cX14_setTens 6 = .ok (.iload_n 2, 1) := by decide +kernel
theorem dX14_setTens_7 : decode cX14_setTens 7 = .ok (.invokestatic 400, 3) := by decide +kernel
theorem dX14_setTens_10 : decode cX14_setTens 10 = .ok (.return_, 1) := by decide +kernel
abbrev r_X14_setTens : Room := { frames := 2, cells := 0, slots := 0, locals := 49 }
abbrev m_X14_setTens : xMd := (cX14_setTens, RX14, 3, none, false, r_X14_setTens)
def b_X14_setTens_0 (Q : xQ) : xK := x_aload 1 <| x_c (.long 1) <| x_callv 12 C_X13_set 2 0 0 <| x_aload 1 <| x_iload 2 <| x_call C_X14_tens 2 0 0 <| x_vret Q
theorem s_X14_setTens_0 (G : xG) (l : Launch) (Q : xQ) : xW G l m_X14_setTens xX0 (xPm G Q r_X14_setTens) 0 (b_X14_setTens_0 Q) := xo_aload_n (pc := 0) (i := 1) dX14_setTens_0 rfl <| xo_lconst (pc := 1) dX14_setTens_1 (by decide) <| xo_callV (pc := 2) (np := 1) (ci := 12) rfl (cM_X13_set G l) dX14_setTens_2 kw1482 kw1479 kw1480 kw1481 kw15 (by decide +kernel) (by decide) <| xo_aload_n (pc := 5) (i := 1) dX14_setTens_5 rfl <| xo_iload_n (pc := 6) (i := 2) dX14_setTens_6 rfl <| xo_callS (pc := 7) (np := 2) (cM_X14_tens G l) dX14_setTens_7 kw1719 kw1717 kw1718 kw13 (by decide +kernel) (by decide) <| xo_vret (pc := 10) rfl dX14_setTens_10

def C_X14_setTens : xC := fun av S Q => ∃ (M r : Nat) (m : Int), av = [.ref M, .ref r, .int (iZ m)] ∧ -2000 ≤ m ∧ m ≤ 2000 ∧ nuE S.1 r ∧ ∀ h', xoff h' S.1 r (r + 5) → nuR h' r false (1 * 10 ^ m.toNat) (1 * 10 ^ (-m).toNat) 0 → Q none (h', S.2)
theorem tenB {k : Nat} (h : k ≤ 2000) : 1 * 10 ^ k < 65536 ^ 640 := by
  rw [Nat.one_mul]
  have a : 10 ^ k ≤ 16 ^ k := Nat.pow_le_pow_left (by decide) k
  have b : 16 ^ k ≤ 16 ^ 2000 := Nat.pow_le_pow_right (by decide) h
  have c : (16 : Nat) ^ 2000 < 65536 ^ 640 := by
    rw [show (65536 : Nat) = 16 ^ 4 from rfl, ← Nat.pow_mul]
    exact Nat.pow_lt_pow_right (by decide) (by decide)
  omega
theorem cM_X14_setTens (G : xG) (l : Launch) : xM G l yX14_setTens cX14_setTens 3 none r_X14_setTens C_X14_setTens := by
  refine xM_of (fun Q => b_X14_setTens_0 Q) RX14 false (s_X14_setTens_0 G l) (by decide) rfl (by decide) ?_
  rintro av ⟨h, S2⟩ Q ⟨M, r, m, rfl, m1, m2, n, hQ⟩
  dsimp only at *
  refine ⟨Nat.le_of_ble_eq_true rfl, ?_⟩
  simp only [q_c, x_iload, x_lload, x_aload, q_istore, q_lstore, q_astore, q_astore2, x_iinc, q_iadd, q_isub, q_imul, q_iand, q_ior, q_ixor, q_ladd, q_lsub, q_lmul, q_land, q_lor, q_lxor, q_idiv, q_irem, q_ldiv, q_lrem, q_ineg, q_lneg, q_ishl, q_ishr, q_iushr, q_lshl, q_lshr, q_lushr, q_i2l, q_l2i, q_i2b, q_i2c, q_lcmp, q_if_eq, q_if_ne, q_if_lt, q_if_ge, q_if_gt, q_if_le, q_icmp_eq, q_icmp_ne, q_icmp_lt, q_icmp_ge, q_icmp_gt, q_icmp_le, q_dup, q_pop, q_dup_x1, q_dup2, x_iret, x_zret, x_lret, x_aret, x_vret, x_call, x_callv, x_calli, x_oinit, x_mmax, x_mmin, x_mabs, x_mmaxL, x_mminL, x_mabsL, lg_cmp_ge, lg_cmp_le, lg_cmp_gt, lg_cmp_lt, lg_cmp_eq, xlk, q_xs1, q_xs2, lv_args, Value.category, List.filter_cons, List.filter_nil, Nat.reduceAdd, Nat.reduceBEq, Nat.reduceEqDiff, Nat.reduceSub, Nat.sub_zero, beq_self_eq_true, Bool.not_true, Bool.not_false, Bool.and_true, Bool.and_false, Bool.true_and, Bool.false_and, reduceIte, reduceCtorEq, Bool.false_eq_true, Nat.one_ne_zero, Nat.zero_ne_one, Nat.zero_add, Option.toList_some, Option.toList_none, List.nil_append, List.cons_append, List.take_succ_cons, List.take_zero, List.take_nil, List.drop_succ_cons, List.drop_zero, List.length_cons, List.length_nil, List.reverse_cons, List.reverse_nil, List.head?_cons, List.map_cons, List.map_nil, List.sum_cons, List.sum_nil, true_and, and_true, List.getElem?_cons_zero, List.getElem?_cons_succ, Prod.eta, x_iast, x_bald, x_bast, x_last, x_alen, xup_s, xup_a1, xup_1a, xup_uu, nr_i, nr_l, nr_o, nr_a, ft_i, ft_l, ft_o, ft_a, Nat.reduceLT, i_cl0, i_cl1, i_n1, i_m1, List.set_cons_zero, List.set_cons_succ, Nat.reduceLeDiff, Nat.le_refl, Nat.zero_le, Nat.add_zero, x_no, x_ifnull, x_ifnonnull, x_acmp_eq, x_acmp_ne, x_swl, x_tsw, x_castC, true_or, or_true, nr_z, ft_z, nr_z0, nr_z1, ft_z0, ft_z1, nr_on, nr_an, ft_on, ft_an, b_X14_setTens_0]
  refine k_set (v := 1) n (by decide) (fun h2 o2 n2 => ?_)
  try simp only [q_c, x_iload, x_lload, x_aload, q_istore, q_lstore, q_astore, q_astore2, x_iinc, q_iadd, q_isub, q_imul, q_iand, q_ior, q_ixor, q_ladd, q_lsub, q_lmul, q_land, q_lor, q_lxor, q_idiv, q_irem, q_ldiv, q_lrem, q_ineg, q_lneg, q_ishl, q_ishr, q_iushr, q_lshl, q_lshr, q_lushr, q_i2l, q_l2i, q_i2b, q_i2c, q_lcmp, q_if_eq, q_if_ne, q_if_lt, q_if_ge, q_if_gt, q_if_le, q_icmp_eq, q_icmp_ne, q_icmp_lt, q_icmp_ge, q_icmp_gt, q_icmp_le, q_dup, q_pop, q_dup_x1, q_dup2, x_iret, x_zret, x_lret, x_aret, x_vret, x_call, x_callv, x_calli, x_oinit, x_mmax, x_mmin, x_mabs, x_mmaxL, x_mminL, x_mabsL, lg_cmp_ge, lg_cmp_le, lg_cmp_gt, lg_cmp_lt, lg_cmp_eq, xlk, q_xs1, q_xs2, lv_args, Value.category, List.filter_cons, List.filter_nil, Nat.reduceAdd, Nat.reduceBEq, Nat.reduceEqDiff, Nat.reduceSub, Nat.sub_zero, beq_self_eq_true, Bool.not_true, Bool.not_false, Bool.and_true, Bool.and_false, Bool.true_and, Bool.false_and, reduceIte, reduceCtorEq, Bool.false_eq_true, Nat.one_ne_zero, Nat.zero_ne_one, Nat.zero_add, Option.toList_some, Option.toList_none, List.nil_append, List.cons_append, List.take_succ_cons, List.take_zero, List.take_nil, List.drop_succ_cons, List.drop_zero, List.length_cons, List.length_nil, List.reverse_cons, List.reverse_nil, List.head?_cons, List.map_cons, List.map_nil, List.sum_cons, List.sum_nil, true_and, and_true, List.getElem?_cons_zero, List.getElem?_cons_succ, Prod.eta, x_iast, x_bald, x_bast, x_last, x_alen, xup_s, xup_a1, xup_1a, xup_uu, nr_i, nr_l, nr_o, nr_a, ft_i, ft_l, ft_o, ft_a, Nat.reduceLT, i_cl0, i_cl1, i_n1, i_m1, List.set_cons_zero, List.set_cons_succ, Nat.reduceLeDiff, Nat.le_refl, Nat.zero_le, Nat.add_zero, x_no, x_ifnull, x_ifnonnull, x_acmp_eq, x_acmp_ne, x_swl, x_tsw, x_castC, true_or, or_true, nr_z, ft_z, nr_z0, nr_z1, ft_z0, ft_z1, nr_on, nr_an, ft_on, ft_an]
  refine ⟨r, false, 1, 1, 0, m, rfl, by omega, by omega, n2, tenB (by omega), tenB (by omega), fun h3 o3 n3 => ?_⟩
  try simp only [q_c, x_iload, x_lload, x_aload, q_istore, q_lstore, q_astore, q_astore2, x_iinc, q_iadd, q_isub, q_imul, q_iand, q_ior, q_ixor, q_ladd, q_lsub, q_lmul, q_land, q_lor, q_lxor, q_idiv, q_irem, q_ldiv, q_lrem, q_ineg, q_lneg, q_ishl, q_ishr, q_iushr, q_lshl, q_lshr, q_lushr, q_i2l, q_l2i, q_i2b, q_i2c, q_lcmp, q_if_eq, q_if_ne, q_if_lt, q_if_ge, q_if_gt, q_if_le, q_icmp_eq, q_icmp_ne, q_icmp_lt, q_icmp_ge, q_icmp_gt, q_icmp_le, q_dup, q_pop, q_dup_x1, q_dup2, x_iret, x_zret, x_lret, x_aret, x_vret, x_call, x_callv, x_calli, x_oinit, x_mmax, x_mmin, x_mabs, x_mmaxL, x_mminL, x_mabsL, lg_cmp_ge, lg_cmp_le, lg_cmp_gt, lg_cmp_lt, lg_cmp_eq, xlk, q_xs1, q_xs2, lv_args, Value.category, List.filter_cons, List.filter_nil, Nat.reduceAdd, Nat.reduceBEq, Nat.reduceEqDiff, Nat.reduceSub, Nat.sub_zero, beq_self_eq_true, Bool.not_true, Bool.not_false, Bool.and_true, Bool.and_false, Bool.true_and, Bool.false_and, reduceIte, reduceCtorEq, Bool.false_eq_true, Nat.one_ne_zero, Nat.zero_ne_one, Nat.zero_add, Option.toList_some, Option.toList_none, List.nil_append, List.cons_append, List.take_succ_cons, List.take_zero, List.take_nil, List.drop_succ_cons, List.drop_zero, List.length_cons, List.length_nil, List.reverse_cons, List.reverse_nil, List.head?_cons, List.map_cons, List.map_nil, List.sum_cons, List.sum_nil, true_and, and_true, List.getElem?_cons_zero, List.getElem?_cons_succ, Prod.eta, x_iast, x_bald, x_bast, x_last, x_alen, xup_s, xup_a1, xup_1a, xup_uu, nr_i, nr_l, nr_o, nr_a, ft_i, ft_l, ft_o, ft_a, Nat.reduceLT, i_cl0, i_cl1, i_n1, i_m1, List.set_cons_zero, List.set_cons_succ, Nat.reduceLeDiff, Nat.le_refl, Nat.zero_le, Nat.add_zero, x_no, x_ifnull, x_ifnonnull, x_acmp_eq, x_acmp_ne, x_swl, x_tsw, x_castC, true_or, or_true, nr_z, ft_z, nr_z0, nr_z1, ft_z0, ft_z1, nr_on, nr_an, ft_on, ft_an]
  exact hQ h3 (xoff_tr o3 o2) n3
