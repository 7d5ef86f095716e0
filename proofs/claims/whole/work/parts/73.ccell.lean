/-! the class: Cell (X1), Floats (X4) -/
/-- a cell of the class at a: ends as ranks -/
def clR (h : xH) (a : Nat) (lo hi : Int) (m : Nat) (r : List Value) : Prop := h a = some (.inr (2, .long (lZ lo) :: .long (lZ hi) :: .int (nI m) :: r)) ∧ r.length = 6
section CG
variable {h : xH} {a : Nat} {lo hi : Int} {m : Nat} {R r : List Value} {k : xK} {lv : List (Nat × Value)} {T : Nat × Nat × Nat}
theorem clR.g0 (w : clR h a lo hi m R) : x_get 2 0 k lv (.ref a :: r) (h, T) = k lv (.long (lZ lo) :: r) (h, T) := q_get w.1 rfl
theorem clR.g1 (w : clR h a lo hi m R) : x_get 2 1 k lv (.ref a :: r) (h, T) = k lv (.long (lZ hi) :: r) (h, T) := q_get w.1 rfl
theorem clR.g2 (w : clR h a lo hi m R) : x_get 2 2 k lv (.ref a :: r) (h, T) = k lv (.int (nI m) :: r) (h, T) := q_get w.1 rfl
end CG
def eC (lo hi : Int) : Bool := decide (hi < lo)
def bC (lo hi : Int) : Bool := decide (-9218868437227405312 < lo ∧ hi < 9218868437227405312)
def zC (lo hi : Int) : Bool := decide (lo ≤ 0 ∧ 0 ≤ hi)
theorem zINF : (9218868437227405312 : Int64) = lZ 9218868437227405312 := by decide
theorem zMINF : (-9218868437227405312 : Int64) = lZ (-9218868437227405312) := by decide
theorem dX1_isEmpty_0 : decode cX1_isEmpty 0 = .ok (.aload_n 0, 1) := by decide +kernel
theorem dX1_isEmpty_1 : decode cX1_isEmpty 1 = .ok (.getfield 9, 3) := by decide +kernel
theorem dX1_isEmpty_4 : decode cX1_isEmpty 4 = .ok (.aload_n 0, 1) := by decide +kernel
theorem dX1_isEmpty_5 : decode cX1_isEmpty 5 = .ok (.getfield 15, 3) := by decide +kernel
theorem dX1_isEmpty_8 : decode cX1_isEmpty 8 = .ok (.lcmp, 1) := by decide +kernel
theorem dX1_isEmpty_9 : decode cX1_isEmpty 9 = .ok (.ifCond .le 7, 3) := by decide +kernel
theorem dX1_isEmpty_12 : decode cX1_isEmpty 12 = .ok (.iconst 1, 1) := by decide +kernel
theorem dX1_isEmpty_13 : decode cX1_isEmpty 13 = .ok (.goto 4, 3) := by decide +kernel
theorem dX1_isEmpty_16 : decode cX1_isEmpty 16 = .ok (.iconst 0, 1) := by decide +kernel
theorem dX1_isEmpty_17 : decode cX1_isEmpty 17 = .ok (.ireturn, 1) := by decide +kernel
abbrev r_X1_isEmpty : Room := { frames := 0, cells := 0, slots := 0, locals := 0 }
abbrev m_X1_isEmpty : xMd := (cX1_isEmpty, RX1, 1, (some FieldType.boolean), false, r_X1_isEmpty)
def b_X1_isEmpty_17 (Q : xQ) : xK := x_zret FieldType.boolean Q
def b_X1_isEmpty_0 (Q : xQ) : xK := x_aload 0 <| x_get 2 0 <| x_aload 0 <| x_get 2 1 <| x_lcmp <| x_if_le (x_c (.int 0) <| (b_X1_isEmpty_17 Q)) <| x_c (.int 1) <| (b_X1_isEmpty_17 Q)
theorem s_X1_isEmpty_17 (G : xG) (l : Launch) (Q : xQ) : xW G l m_X1_isEmpty xX0 (xPm G Q r_X1_isEmpty) 17 (b_X1_isEmpty_17 Q) := xo_zret (pc := 17) rfl dX1_isEmpty_17
theorem s_X1_isEmpty_0 (G : xG) (l : Launch) (Q : xQ) : xW G l m_X1_isEmpty xX0 (xPm G Q r_X1_isEmpty) 0 (b_X1_isEmpty_0 Q) := xo_aload_n (pc := 0) (i := 0) dX1_isEmpty_0 rfl <| xo_get (pc := 1) (ci := 2) (i := 0) rfl ok2 (by decide) dX1_isEmpty_1 kw346 <| xo_aload_n (pc := 4) (i := 0) dX1_isEmpty_4 rfl <| xo_get (pc := 5) (ci := 2) (i := 1) rfl ok2 (by decide) dX1_isEmpty_5 kw353 <| xo_lcmp (pc := 8) dX1_isEmpty_8 <| xo_if_le (pc := 9) (tgt := 16) dX1_isEmpty_9 (by decide) (xo_iconst (pc := 16) dX1_isEmpty_16 (by decide) <| (s_X1_isEmpty_17 G l Q)) <| xo_iconst (pc := 12) dX1_isEmpty_12 (by decide) <| xo_goto (pc := 13) (tgt := 17) dX1_isEmpty_13 (by decide) <| (s_X1_isEmpty_17 G l Q)

def C_X1_isEmpty : xC := fun av S Q => ∃ (a : Nat) (lo hi : Int) (m : Nat) (r : List Value), av = [.ref a] ∧ clR S.1 a lo hi m r ∧ oF lo ∧ oF hi ∧ Q (some (.int (bI (eC lo hi)))) S
theorem cM_X1_isEmpty (G : xG) (l : Launch) : xM G l yX1_isEmpty cX1_isEmpty 1 (some FieldType.boolean) r_X1_isEmpty C_X1_isEmpty := by
  refine xM_of (fun Q => b_X1_isEmpty_0 Q) RX1 false (s_X1_isEmpty_0 G l) (by decide) rfl (by decide) ?_
  rintro av ⟨h, S2⟩ Q ⟨a, lo, hi, m, r, rfl, w, hlo, hhi, hQ⟩
  dsimp only at *
  refine ⟨Nat.le_of_ble_eq_true rfl, ?_⟩
  have fin : ∀ t, t = eC lo hi → Q (some (.int (bI t))) (h, S2) := fun t ht => by rw [ht]; exact hQ
  simp only [q_c, x_iload, x_lload, x_aload, q_istore, q_lstore, q_astore, q_astore2, x_iinc, q_iadd, q_isub, q_imul, q_iand, q_ior, q_ixor, q_ladd, q_lsub, q_lmul, q_land, q_lor, q_lxor, q_idiv, q_irem, q_ldiv, q_lrem, q_ineg, q_lneg, q_ishl, q_ishr, q_iushr, q_lshl, q_lshr, q_lushr, q_i2l, q_l2i, q_i2b, q_i2c, q_lcmp, q_if_eq, q_if_ne, q_if_lt, q_if_ge, q_if_gt, q_if_le, q_icmp_eq, q_icmp_ne, q_icmp_lt, q_icmp_ge, q_icmp_gt, q_icmp_le, q_dup, q_pop, q_dup_x1, q_dup2, x_iret, x_zret, x_lret, x_aret, x_vret, x_call, x_callv, x_calli, x_oinit, x_mmax, x_mmin, x_mabs, x_mmaxL, x_mminL, x_mabsL, lg_cmp_ge, lg_cmp_le, lg_cmp_gt, lg_cmp_lt, lg_cmp_eq, xlk, q_xs1, q_xs2, lv_args, Value.category, List.filter_cons, List.filter_nil, Nat.reduceAdd, Nat.reduceBEq, Nat.reduceEqDiff, Nat.reduceSub, Nat.sub_zero, beq_self_eq_true, Bool.not_true, Bool.not_false, Bool.and_true, Bool.and_false, Bool.true_and, Bool.false_and, reduceIte, reduceCtorEq, Bool.false_eq_true, Nat.one_ne_zero, Nat.zero_ne_one, Nat.zero_add, Option.toList_some, Option.toList_none, List.nil_append, List.cons_append, List.take_succ_cons, List.take_zero, List.take_nil, List.drop_succ_cons, List.drop_zero, List.length_cons, List.length_nil, List.reverse_cons, List.reverse_nil, List.head?_cons, List.map_cons, List.map_nil, List.sum_cons, List.sum_nil, true_and, and_true, List.getElem?_cons_zero, List.getElem?_cons_succ, Prod.eta, x_iast, x_bald, x_bast, x_last, x_alen, xup_s, xup_a1, xup_1a, xup_uu, nr_i, nr_l, nr_o, nr_a, ft_i, ft_l, ft_o, ft_a, Nat.reduceLT, i_cl0, i_cl1, i_n1, i_m1, List.set_cons_zero, List.set_cons_succ, Nat.reduceLeDiff, Nat.le_refl, Nat.zero_le, Nat.add_zero, x_no, x_ifnull, x_ifnonnull, x_acmp_eq, x_acmp_ne, x_swl, x_tsw, x_castC, true_or, or_true, nr_z, ft_z, nr_z0, nr_z1, ft_z0, ft_z1, nr_on, nr_an, ft_on, ft_an, b_X1_isEmpty_0, b_X1_isEmpty_17, w.g0, w.g1, lZ_leI hlo hhi]
  exact ⟨fun x => fin false (decide_eq_false (by omega)).symm, fun x => fin true (decide_eq_true (by omega)).symm⟩
theorem dX1_isBounded_0 : decode cX1_isBounded 0 = .ok (.aload_n 0, 1) := by decide +kernel
theorem dX1_isBounded_1 : decode cX1_isBounded 1 = .ok (.getfield 9, 3) := by decide +kernel
theorem dX1_isBounded_4 : decode cX1_isBounded 4 = .ok (.ldc2_w 18, 3) := by decide +kernel
theorem dX1_isBounded_7 : decode cX1_isBounded 7 = .ok (.lcmp, 1) := by decide +kernel
theorem dX1_isBounded_8 : decode cX1_isBounded 8 = .ok (.ifCond .le 18, 3) := by decide +kernel
theorem dX1_isBounded_11 : decode cX1_isBounded 11 = .ok (.aload_n 0, 1) := by decide +kernel
theorem dX1_isBounded_12 : decode cX1_isBounded 12 = .ok (.getfield 15, 3) := by decide +kernel
theorem dX1_isBounded_15 : decode cX1_isBounded 15 = .ok (.ldc2_w 20, 3) := by decide +kernel
theorem dX1_isBounded_18 : decode cX1_isBounded 18 = .ok (.lcmp, 1) := by decide +kernel
theorem dX1_isBounded_19 : decode cX1_isBounded 19 = .ok (.ifCond .ge 7, 3) := by decide +kernel
theorem dX1_isBounded_22 : decode cX1_isBounded 22 = .ok (.iconst 1, 1) := by decide +kernel
theorem dX1_isBounded_23 : decode cX1_isBounded 23 = .ok (.goto 4, 3) := by decide +kernel
theorem dX1_isBounded_26 : decode cX1_isBounded 26 = .ok (.iconst 0, 1) := by decide +kernel
theorem dX1_isBounded_27 : decode cX1_isBounded 27 = .ok (.ireturn, 1) := by decide +kernel
abbrev r_X1_isBounded : Room := { frames := 0, cells := 0, slots := 0, locals := 0 }
abbrev m_X1_isBounded : xMd := (cX1_isBounded, RX1, 1, (some FieldType.boolean), false, r_X1_isBounded)
def b_X1_isBounded_27 (Q : xQ) : xK := x_zret FieldType.boolean Q
def b_X1_isBounded_26 (Q : xQ) : xK := x_c (.int 0) <| (b_X1_isBounded_27 Q)
def b_X1_isBounded_0 (Q : xQ) : xK := x_aload 0 <| x_get 2 0 <| x_c (.long (-9218868437227405312)) <| x_lcmp <| x_if_le ((b_X1_isBounded_26 Q)) <| x_aload 0 <| x_get 2 1 <| x_c (.long 9218868437227405312) <| x_lcmp <| x_if_ge ((b_X1_isBounded_26 Q)) <| x_c (.int 1) <| (b_X1_isBounded_27 Q)
theorem s_X1_isBounded_27 (G : xG) (l : Launch) (Q : xQ) : xW G l m_X1_isBounded xX0 (xPm G Q r_X1_isBounded) 27 (b_X1_isBounded_27 Q) := xo_zret (pc := 27) rfl dX1_isBounded_27
theorem s_X1_isBounded_26 (G : xG) (l : Launch) (Q : xQ) : xW G l m_X1_isBounded xX0 (xPm G Q r_X1_isBounded) 26 (b_X1_isBounded_26 Q) := xo_iconst (pc := 26) dX1_isBounded_26 (by decide) <| (s_X1_isBounded_27 G l Q)
theorem s_X1_isBounded_0 (G : xG) (l : Launch) (Q : xQ) : xW G l m_X1_isBounded xX0 (xPm G Q r_X1_isBounded) 0 (b_X1_isBounded_0 Q) := xo_aload_n (pc := 0) (i := 0) dX1_isBounded_0 rfl <| xo_get (pc := 1) (ci := 2) (i := 0) rfl ok2 (by decide) dX1_isBounded_1 kw346 <| xo_ldc2_w (pc := 4) dX1_isBounded_4 kw712 <| xo_lcmp (pc := 7) dX1_isBounded_7 <| xo_if_le (pc := 8) (tgt := 26) dX1_isBounded_8 (by decide) ((s_X1_isBounded_26 G l Q)) <| xo_aload_n (pc := 11) (i := 0) dX1_isBounded_11 rfl <| xo_get (pc := 12) (ci := 2) (i := 1) rfl ok2 (by decide) dX1_isBounded_12 kw353 <| xo_ldc2_w (pc := 15) dX1_isBounded_15 kw713 <| xo_lcmp (pc := 18) dX1_isBounded_18 <| xo_if_ge (pc := 19) (tgt := 26) dX1_isBounded_19 (by decide) ((s_X1_isBounded_26 G l Q)) <| xo_iconst (pc := 22) dX1_isBounded_22 (by decide) <| xo_goto (pc := 23) (tgt := 27) dX1_isBounded_23 (by decide) <| (s_X1_isBounded_27 G l Q)

def C_X1_isBounded : xC := fun av S Q => ∃ (a : Nat) (lo hi : Int) (m : Nat) (r : List Value), av = [.ref a] ∧ clR S.1 a lo hi m r ∧ oF lo ∧ oF hi ∧ Q (some (.int (bI (bC lo hi)))) S
theorem cM_X1_isBounded (G : xG) (l : Launch) : xM G l yX1_isBounded cX1_isBounded 1 (some FieldType.boolean) r_X1_isBounded C_X1_isBounded := by
  refine xM_of (fun Q => b_X1_isBounded_0 Q) RX1 false (s_X1_isBounded_0 G l) (by decide) rfl (by decide) ?_
  rintro av ⟨h, S2⟩ Q ⟨a, lo, hi, m, r, rfl, w, hlo, hhi, hQ⟩
  dsimp only at *
  refine ⟨Nat.le_of_ble_eq_true rfl, ?_⟩
  have fin : ∀ t, t = bC lo hi → Q (some (.int (bI t))) (h, S2) := fun t ht => by rw [ht]; exact hQ
  simp only [q_c, x_iload, x_lload, x_aload, q_istore, q_lstore, q_astore, q_astore2, x_iinc, q_iadd, q_isub, q_imul, q_iand, q_ior, q_ixor, q_ladd, q_lsub, q_lmul, q_land, q_lor, q_lxor, q_idiv, q_irem, q_ldiv, q_lrem, q_ineg, q_lneg, q_ishl, q_ishr, q_iushr, q_lshl, q_lshr, q_lushr, q_i2l, q_l2i, q_i2b, q_i2c, q_lcmp, q_if_eq, q_if_ne, q_if_lt, q_if_ge, q_if_gt, q_if_le, q_icmp_eq, q_icmp_ne, q_icmp_lt, q_icmp_ge, q_icmp_gt, q_icmp_le, q_dup, q_pop, q_dup_x1, q_dup2, x_iret, x_zret, x_lret, x_aret, x_vret, x_call, x_callv, x_calli, x_oinit, x_mmax, x_mmin, x_mabs, x_mmaxL, x_mminL, x_mabsL, lg_cmp_ge, lg_cmp_le, lg_cmp_gt, lg_cmp_lt, lg_cmp_eq, xlk, q_xs1, q_xs2, lv_args, Value.category, List.filter_cons, List.filter_nil, Nat.reduceAdd, Nat.reduceBEq, Nat.reduceEqDiff, Nat.reduceSub, Nat.sub_zero, beq_self_eq_true, Bool.not_true, Bool.not_false, Bool.and_true, Bool.and_false, Bool.true_and, Bool.false_and, reduceIte, reduceCtorEq, Bool.false_eq_true, Nat.one_ne_zero, Nat.zero_ne_one, Nat.zero_add, Option.toList_some, Option.toList_none, List.nil_append, List.cons_append, List.take_succ_cons, List.take_zero, List.take_nil, List.drop_succ_cons, List.drop_zero, List.length_cons, List.length_nil, List.reverse_cons, List.reverse_nil, List.head?_cons, List.map_cons, List.map_nil, List.sum_cons, List.sum_nil, true_and, and_true, List.getElem?_cons_zero, List.getElem?_cons_succ, Prod.eta, x_iast, x_bald, x_bast, x_last, x_alen, xup_s, xup_a1, xup_1a, xup_uu, nr_i, nr_l, nr_o, nr_a, ft_i, ft_l, ft_o, ft_a, Nat.reduceLT, i_cl0, i_cl1, i_n1, i_m1, List.set_cons_zero, List.set_cons_succ, Nat.reduceLeDiff, Nat.le_refl, Nat.zero_le, Nat.add_zero, x_no, x_ifnull, x_ifnonnull, x_acmp_eq, x_acmp_ne, x_swl, x_tsw, x_castC, true_or, or_true, nr_z, ft_z, nr_z0, nr_z1, ft_z0, ft_z1, nr_on, nr_an, ft_on, ft_an, b_X1_isBounded_0, b_X1_isBounded_26, b_X1_isBounded_27, w.g0, w.g1, zINF, lZ_neg, lZ_leI hlo oMINF, lZ_leI oINF hhi]
  exact ⟨fun x => fin false (decide_eq_false (by omega)).symm, fun x => ⟨fun y => fin false (decide_eq_false (by omega)).symm, fun y => fin true (decide_eq_true (by omega)).symm⟩⟩
theorem dX1_hasZero_0 : decode cX1_hasZero 0 = .ok (.aload_n 0, 1) := by decide +kernel
theorem dX1_hasZero_1 : decode cX1_hasZero 1 = .ok (.getfield 9, 3) := by decide +kernel
theorem dX1_hasZero_4 : decode cX1_hasZero 4 = .ok (.lconst 0, 1) := by decide +kernel
theorem dX1_hasZero_5 : decode cX1_hasZero 5 = .ok (.lcmp, 1) := by decide +kernel
theorem dX1_hasZero_6 : decode cX1_hasZero 6 = .ok (.ifCond .gt 16, 3) := by decide +kernel
theorem dX1_hasZero_9 : decode cX1_hasZero 9 = .ok (.aload_n 0, 1) := by decide +kernel
theorem dX1_hasZero_10 : decode cX1_hasZero 10 = .ok (.getfield 15, 3) := by decide +kernel
theorem dX1_hasZero_13 : decode cX1_hasZero 13 = .ok (.lconst 0, 1) := by decide +kernel
theorem dX1_hasZero_14 : decode cX1_hasZero 14 = .ok (.lcmp, 1) := by decide +kernel
theorem dX1_hasZero_15 : decode cX1_hasZero 15 = .ok (.ifCond .lt 7, 3) := by decide +kernel
theorem dX1_hasZero_18 : decode cX1_hasZero 18 = .ok (.iconst 1, 1) := by decide +kernel
theorem dX1_hasZero_19 : decode cX1_hasZero 19 = .ok (.goto 4, 3) := by decide +kernel
theorem dX1_hasZero_22 : decode cX1_hasZero 22 = .ok (.iconst 0, 1) := by decide +kernel
theorem dX1_hasZero_23 : decode cX1_hasZero 23 = .ok (.ireturn, 1) := by decide +kernel
abbrev r_X1_hasZero : Room := { frames := 0, cells := 0, slots := 0, locals := 0 }
abbrev m_X1_hasZero : xMd := (cX1_hasZero, RX1, 1, (some FieldType.boolean), false, r_X1_hasZero)
def b_X1_hasZero_23 (Q : xQ) : xK := x_zret FieldType.boolean Q
def b_X1_hasZero_22 (Q : xQ) : xK := x_c (.int 0) <| (b_X1_hasZero_23 Q)
def b_X1_hasZero_0 (Q : xQ) : xK := x_aload 0 <| x_get 2 0 <| x_c (.long 0) <| x_lcmp <| x_if_gt ((b_X1_hasZero_22 Q)) <| x_aload 0 <| x_get 2 1 <| x_c (.long 0) <| x_lcmp <| x_if_lt ((b_X1_hasZero_22 Q)) <| x_c (.int 1) <| (b_X1_hasZero_23 Q)
theorem s_X1_hasZero_23 (G : xG) (l : Launch) (Q : xQ) : xW G l m_X1_hasZero xX0 (xPm G Q r_X1_hasZero) 23 (b_X1_hasZero_23 Q) := xo_zret (pc := 23) rfl dX1_hasZero_23
theorem s_X1_hasZero_22 (G : xG) (l : Launch) (Q : xQ) : xW G l m_X1_hasZero xX0 (xPm G Q r_X1_hasZero) 22 (b_X1_hasZero_22 Q) := xo_iconst (pc := 22) dX1_hasZero_22 (by decide) <| (s_X1_hasZero_23 G l Q)
theorem s_X1_hasZero_0 (G : xG) (l : Launch) (Q : xQ) : xW G l m_X1_hasZero xX0 (xPm G Q r_X1_hasZero) 0 (b_X1_hasZero_0 Q) := xo_aload_n (pc := 0) (i := 0) dX1_hasZero_0 rfl <| xo_get (pc := 1) (ci := 2) (i := 0) rfl ok2 (by decide) dX1_hasZero_1 kw346 <| xo_lconst (pc := 4) dX1_hasZero_4 (by decide) <| xo_lcmp (pc := 5) dX1_hasZero_5 <| xo_if_gt (pc := 6) (tgt := 22) dX1_hasZero_6 (by decide) ((s_X1_hasZero_22 G l Q)) <| xo_aload_n (pc := 9) (i := 0) dX1_hasZero_9 rfl <| xo_get (pc := 10) (ci := 2) (i := 1) rfl ok2 (by decide) dX1_hasZero_10 kw353 <| xo_lconst (pc := 13) dX1_hasZero_13 (by decide) <| xo_lcmp (pc := 14) dX1_hasZero_14 <| xo_if_lt (pc := 15) (tgt := 22) dX1_hasZero_15 (by decide) ((s_X1_hasZero_22 G l Q)) <| xo_iconst (pc := 18) dX1_hasZero_18 (by decide) <| xo_goto (pc := 19) (tgt := 23) dX1_hasZero_19 (by decide) <| (s_X1_hasZero_23 G l Q)

def C_X1_hasZero : xC := fun av S Q => ∃ (a : Nat) (lo hi : Int) (m : Nat) (r : List Value), av = [.ref a] ∧ clR S.1 a lo hi m r ∧ oF lo ∧ oF hi ∧ Q (some (.int (bI (zC lo hi)))) S
theorem cM_X1_hasZero (G : xG) (l : Launch) : xM G l yX1_hasZero cX1_hasZero 1 (some FieldType.boolean) r_X1_hasZero C_X1_hasZero := by
  refine xM_of (fun Q => b_X1_hasZero_0 Q) RX1 false (s_X1_hasZero_0 G l) (by decide) rfl (by decide) ?_
  rintro av ⟨h, S2⟩ Q ⟨a, lo, hi, m, r, rfl, w, hlo, hhi, hQ⟩
  dsimp only at *
  refine ⟨Nat.le_of_ble_eq_true rfl, ?_⟩
  have fin : ∀ t, t = zC lo hi → Q (some (.int (bI t))) (h, S2) := fun t ht => by rw [ht]; exact hQ
  simp only [q_c, x_iload, x_lload, x_aload, q_istore, q_lstore, q_astore, q_astore2, x_iinc, q_iadd, q_isub, q_imul, q_iand, q_ior, q_ixor, q_ladd, q_lsub, q_lmul, q_land, q_lor, q_lxor, q_idiv, q_irem, q_ldiv, q_lrem, q_ineg, q_lneg, q_ishl, q_ishr, q_iushr, q_lshl, q_lshr, q_lushr, q_i2l, q_l2i, q_i2b, q_i2c, q_lcmp, q_if_eq, q_if_ne, q_if_lt, q_if_ge, q_if_gt, q_if_le, q_icmp_eq, q_icmp_ne, q_icmp_lt, q_icmp_ge, q_icmp_gt, q_icmp_le, q_dup, q_pop, q_dup_x1, q_dup2, x_iret, x_zret, x_lret, x_aret, x_vret, x_call, x_callv, x_calli, x_oinit, x_mmax, x_mmin, x_mabs, x_mmaxL, x_mminL, x_mabsL, lg_cmp_ge, lg_cmp_le, lg_cmp_gt, lg_cmp_lt, lg_cmp_eq, xlk, q_xs1, q_xs2, lv_args, Value.category, List.filter_cons, List.filter_nil, Nat.reduceAdd, Nat.reduceBEq, Nat.reduceEqDiff, Nat.reduceSub, Nat.sub_zero, beq_self_eq_true, Bool.not_true, Bool.not_false, Bool.and_true, Bool.and_false, Bool.true_and, Bool.false_and, reduceIte, reduceCtorEq, Bool.false_eq_true, Nat.one_ne_zero, Nat.zero_ne_one, Nat.zero_add, Option.toList_some, Option.toList_none, List.nil_append, List.cons_append, List.take_succ_cons, List.take_zero, List.take_nil, List.drop_succ_cons, List.drop_zero, List.length_cons, List.length_nil, List.reverse_cons, List.reverse_nil, List.head?_cons, List.map_cons, List.map_nil, List.sum_cons, List.sum_nil, true_and, and_true, List.getElem?_cons_zero, List.getElem?_cons_succ, Prod.eta, x_iast, x_bald, x_bast, x_last, x_alen, xup_s, xup_a1, xup_1a, xup_uu, nr_i, nr_l, nr_o, nr_a, ft_i, ft_l, ft_o, ft_a, Nat.reduceLT, i_cl0, i_cl1, i_n1, i_m1, List.set_cons_zero, List.set_cons_succ, Nat.reduceLeDiff, Nat.le_refl, Nat.zero_le, Nat.add_zero, x_no, x_ifnull, x_ifnonnull, x_acmp_eq, x_acmp_ne, x_swl, x_tsw, x_castC, true_or, or_true, nr_z, ft_z, nr_z0, nr_z1, ft_z0, ft_z1, nr_on, nr_an, ft_on, ft_an, b_X1_hasZero_0, b_X1_hasZero_22, b_X1_hasZero_23, w.g0, w.g1, lz_gt0 hlo, lz_lt0 hhi]
  exact ⟨fun x => fin false (decide_eq_false (by omega)).symm, fun x => ⟨fun y => fin false (decide_eq_false (by omega)).symm, fun y => fin true (decide_eq_true (by omega)).symm⟩⟩
theorem dX1_isZero_0 : decode cX1_isZero 0 = .ok (.aload_n 0, 1) := by decide +kernel
theorem dX1_isZero_1 : decode cX1_isZero 1 = .ok (.getfield 9, 3) := by decide +kernel
theorem dX1_isZero_4 : decode cX1_isZero 4 = .ok (.lconst 0, 1) := by decide +kernel
theorem dX1_isZero_5 : decode cX1_isZero 5 = .ok (.lcmp, 1) := by decide +kernel
theorem dX1_isZero_6 : decode cX1_isZero 6 = .ok (.ifCond .ne 16, 3) := by decide +kernel
theorem dX1_isZero_9 : decode cX1_isZero 9 = .ok (.aload_n 0, 1) := by decide +kernel
theorem dX1_isZero_10 : decode cX1_isZero 10 = .ok (.getfield 15, 3) := by decide +kernel
theorem dX1_isZero_13 : decode cX1_isZero 13 = .ok (.lconst 0, 1) := by decide +kernel
theorem dX1_isZero_14 : decode cX1_isZero 14 = .ok (.lcmp, 1) := by decide +kernel
theorem dX1_isZero_15 : decode cX1_isZero 15 = .ok (.ifCond .ne 7, 3) := by decide +kernel
theorem dX1_isZero_18 : decode cX1_isZero 18 = .ok (.iconst 1, 1) := by decide +kernel
theorem dX1_isZero_19 : decode cX1_isZero 19 = .ok (.goto 4, 3) := by decide +kernel
theorem dX1_isZero_22 : decode cX1_isZero 22 = .ok (.iconst 0, 1) := by decide +kernel
theorem dX1_isZero_23 : decode cX1_isZero 23 = .ok (.ireturn, 1) := by decide +kernel
abbrev r_X1_isZero : Room := { frames := 0, cells := 0, slots := 0, locals := 0 }
abbrev m_X1_isZero : xMd := (cX1_isZero, RX1, 1, (some FieldType.boolean), false, r_X1_isZero)
def b_X1_isZero_23 (Q : xQ) : xK := x_zret FieldType.boolean Q
def b_X1_isZero_22 (Q : xQ) : xK := x_c (.int 0) <| (b_X1_isZero_23 Q)
def b_X1_isZero_0 (Q : xQ) : xK := x_aload 0 <| x_get 2 0 <| x_c (.long 0) <| x_lcmp <| x_if_ne ((b_X1_isZero_22 Q)) <| x_aload 0 <| x_get 2 1 <| x_c (.long 0) <| x_lcmp <| x_if_ne ((b_X1_isZero_22 Q)) <| x_c (.int 1) <| (b_X1_isZero_23 Q)
theorem s_X1_isZero_23 (G : xG) (l : Launch) (Q : xQ) : xW G l m_X1_isZero xX0 (xPm G Q r_X1_isZero) 23 (b_X1_isZero_23 Q) := xo_zret (pc := 23) rfl dX1_isZero_23
theorem s_X1_isZero_22 (G : xG) (l : Launch) (Q : xQ) : xW G l m_X1_isZero xX0 (xPm G Q r_X1_isZero) 22 (b_X1_isZero_22 Q) := xo_iconst (pc := 22) dX1_isZero_22 (by decide) <| (s_X1_isZero_23 G l Q)
theorem s_X1_isZero_0 (G : xG) (l : Launch) (Q : xQ) : xW G l m_X1_isZero xX0 (xPm G Q r_X1_isZero) 0 (b_X1_isZero_0 Q) := xo_aload_n (pc := 0) (i := 0) dX1_isZero_0 rfl <| xo_get (pc := 1) (ci := 2) (i := 0) rfl ok2 (by decide) dX1_isZero_1 kw346 <| xo_lconst (pc := 4) dX1_isZero_4 (by decide) <| xo_lcmp (pc := 5) dX1_isZero_5 <| xo_if_ne (pc := 6) (tgt := 22) dX1_isZero_6 (by decide) ((s_X1_isZero_22 G l Q)) <| xo_aload_n (pc := 9) (i := 0) dX1_isZero_9 rfl <| xo_get (pc := 10) (ci := 2) (i := 1) rfl ok2 (by decide) dX1_isZero_10 kw353 <| xo_lconst (pc := 13) dX1_isZero_13 (by decide) <| xo_lcmp (pc := 14) dX1_isZero_14 <| xo_if_ne (pc := 15) (tgt := 22) dX1_isZero_15 (by decide) ((s_X1_isZero_22 G l Q)) <| xo_iconst (pc := 18) dX1_isZero_18 (by decide) <| xo_goto (pc := 19) (tgt := 23) dX1_isZero_19 (by decide) <| (s_X1_isZero_23 G l Q)

def C_X1_isZero : xC := fun av S Q => ∃ (a : Nat) (lo hi : Int) (m : Nat) (r : List Value), av = [.ref a] ∧ clR S.1 a lo hi m r ∧ oF lo ∧ oF hi ∧ Q (some (.int (bI (decide (lo = 0 ∧ hi = 0))))) S
theorem lz_e0 {k : Int} (h : oF k) : lZ k = (0 : Int64) ↔ k = 0 := by rw [lZ0]; exact lZ_inj h oF0
theorem cM_X1_isZero (G : xG) (l : Launch) : xM G l yX1_isZero cX1_isZero 1 (some FieldType.boolean) r_X1_isZero C_X1_isZero := by
  refine xM_of (fun Q => b_X1_isZero_0 Q) RX1 false (s_X1_isZero_0 G l) (by decide) rfl (by decide) ?_
  rintro av ⟨h, S2⟩ Q ⟨a, lo, hi, m, r, rfl, w, hlo, hhi, hQ⟩
  dsimp only at *
  refine ⟨Nat.le_of_ble_eq_true rfl, ?_⟩
  have fin : ∀ t, t = decide (lo = 0 ∧ hi = 0) → Q (some (.int (bI t))) (h, S2) := fun t ht => by rw [ht]; exact hQ
  simp only [q_c, x_iload, x_lload, x_aload, q_istore, q_lstore, q_astore, q_astore2, x_iinc, q_iadd, q_isub, q_imul, q_iand, q_ior, q_ixor, q_ladd, q_lsub, q_lmul, q_land, q_lor, q_lxor, q_idiv, q_irem, q_ldiv, q_lrem, q_ineg, q_lneg, q_ishl, q_ishr, q_iushr, q_lshl, q_lshr, q_lushr, q_i2l, q_l2i, q_i2b, q_i2c, q_lcmp, q_if_eq, q_if_ne, q_if_lt, q_if_ge, q_if_gt, q_if_le, q_icmp_eq, q_icmp_ne, q_icmp_lt, q_icmp_ge, q_icmp_gt, q_icmp_le, q_dup, q_pop, q_dup_x1, q_dup2, x_iret, x_zret, x_lret, x_aret, x_vret, x_call, x_callv, x_calli, x_oinit, x_mmax, x_mmin, x_mabs, x_mmaxL, x_mminL, x_mabsL, lg_cmp_ge, lg_cmp_le, lg_cmp_gt, lg_cmp_lt, lg_cmp_eq, xlk, q_xs1, q_xs2, lv_args, Value.category, List.filter_cons, List.filter_nil, Nat.reduceAdd, Nat.reduceBEq, Nat.reduceEqDiff, Nat.reduceSub, Nat.sub_zero, beq_self_eq_true, Bool.not_true, Bool.not_false, Bool.and_true, Bool.and_false, Bool.true_and, Bool.false_and, reduceIte, reduceCtorEq, Bool.false_eq_true, Nat.one_ne_zero, Nat.zero_ne_one, Nat.zero_add, Option.toList_some, Option.toList_none, List.nil_append, List.cons_append, List.take_succ_cons, List.take_zero, List.take_nil, List.drop_succ_cons, List.drop_zero, List.length_cons, List.length_nil, List.reverse_cons, List.reverse_nil, List.head?_cons, List.map_cons, List.map_nil, List.sum_cons, List.sum_nil, true_and, and_true, List.getElem?_cons_zero, List.getElem?_cons_succ, Prod.eta, x_iast, x_bald, x_bast, x_last, x_alen, xup_s, xup_a1, xup_1a, xup_uu, nr_i, nr_l, nr_o, nr_a, ft_i, ft_l, ft_o, ft_a, Nat.reduceLT, i_cl0, i_cl1, i_n1, i_m1, List.set_cons_zero, List.set_cons_succ, Nat.reduceLeDiff, Nat.le_refl, Nat.zero_le, Nat.add_zero, x_no, x_ifnull, x_ifnonnull, x_acmp_eq, x_acmp_ne, x_swl, x_tsw, x_castC, true_or, or_true, nr_z, ft_z, nr_z0, nr_z1, ft_z0, ft_z1, nr_on, nr_an, ft_on, ft_an, b_X1_isZero_0, b_X1_isZero_22, b_X1_isZero_23, w.g0, w.g1, lz_e0 hlo, lz_e0 hhi]
  exact ⟨fun x => fin false (decide_eq_false (fun y => x y.1)).symm, fun x => ⟨fun y => fin false (decide_eq_false (fun z => y z.2)).symm, fun y => fin true (decide_eq_true ⟨x, y⟩).symm⟩⟩
theorem dX1_strongest_0 : decode cX1_strongest 0 = .ok (.aload_n 0, 1) := by decide +kernel
theorem dX1_strongest_1 : decode cX1_strongest 1 = .ok (.invokevirtual 28, 3) := by decide +kernel
theorem dX1_strongest_4 : decode cX1_strongest 4 = .ok (.ifCond .eq 5, 3) := by decide +kernel
theorem dX1_strongest_7 : decode cX1_strongest 7 = .ok (.iconst 1, 1) := by decide +kernel
theorem dX1_strongest_8 : decode cX1_strongest 8 = .ok (.ireturn, 1) := by decide +kernel
theorem dX1_strongest_9 : decode cX1_strongest 9 = .ok (.aload_n 0, 1) := by decide +kernel
theorem dX1_strongest_10 : decode cX1_strongest 10 = .ok (.invokevirtual 32, 3) := by decide +kernel
theorem dX1_strongest_13 : decode cX1_strongest 13 = .ok (.ifCond .eq 7, 3) := by decide +kernel
theorem dX1_strongest_16 : decode cX1_strongest 16 = .ok (.iconst 4, 1) := by decide +kernel
theorem dX1_strongest_17 : decode cX1_strongest 17 = .ok (.goto 4, 3) := by decide +kernel
theorem dX1_strongest_20 : decode cX1_strongest 20 = .ok (.iconst 3, 1) := by decide +kernel
theorem dX1_strongest_21 : decode cX1_strongest 21 = .ok (.ireturn, 1) := by decide +kernel
abbrev r_X1_strongest : Room := { frames := 1, cells := 0, slots := 0, locals := 20 }
abbrev m_X1_strongest : xMd := (cX1_strongest, RX1, 1, (some FieldType.int), false, r_X1_strongest)
def b_X1_strongest_21 (Q : xQ) : xK := x_iret Q
def b_X1_strongest_0 (Q : xQ) : xK := x_aload 0 <| x_callv 2 C_X1_isEmpty 1 0 0 <| x_if_eq (x_aload 0 <| x_callv 2 C_X1_isBounded 1 0 0 <| x_if_eq (x_c (.int 3) <| (b_X1_strongest_21 Q)) <| x_c (.int 4) <| (b_X1_strongest_21 Q)) <| x_c (.int 1) <| x_iret Q
theorem s_X1_strongest_21 (G : xG) (l : Launch) (Q : xQ) : xW G l m_X1_strongest xX0 (xPm G Q r_X1_strongest) 21 (b_X1_strongest_21 Q) := xo_iret (pc := 21) rfl dX1_strongest_21
theorem s_X1_strongest_0 (G : xG) (l : Launch) (Q : xQ) : xW G l m_X1_strongest xX0 (xPm G Q r_X1_strongest) 0 (b_X1_strongest_0 Q) := xo_aload_n (pc := 0) (i := 0) dX1_strongest_0 rfl <| xo_callV (pc := 1) (np := 0) (ci := 2) rfl (cM_X1_isEmpty G l) dX1_strongest_1 kw707 kw704 kw705 kw706 kw19 (by decide +kernel) (by decide) <| xo_if_eq (pc := 4) (tgt := 9) dX1_strongest_4 (by decide) (xo_aload_n (pc := 9) (i := 0) dX1_strongest_9 rfl <| xo_callV (pc := 10) (np := 0) (ci := 2) rfl (cM_X1_isBounded G l) dX1_strongest_10 kw711 kw708 kw709 kw710 kw19 (by decide +kernel) (by decide) <| xo_if_eq (pc := 13) (tgt := 20) dX1_strongest_13 (by decide) (xo_iconst (pc := 20) dX1_strongest_20 (by decide) <| (s_X1_strongest_21 G l Q)) <| xo_iconst (pc := 16) dX1_strongest_16 (by decide) <| xo_goto (pc := 17) (tgt := 21) dX1_strongest_17 (by decide) <| (s_X1_strongest_21 G l Q)) <| xo_iconst (pc := 7) dX1_strongest_7 (by decide) <| xo_iret (pc := 8) rfl dX1_strongest_8

def sC (lo hi : Int) : Nat := if eC lo hi = true then 1 else if bC lo hi = true then 4 else 3
def C_X1_strongest : xC := fun av S Q => ∃ (a : Nat) (lo hi : Int) (m : Nat) (r : List Value), av = [.ref a] ∧ clR S.1 a lo hi m r ∧ oF lo ∧ oF hi ∧ Q (some (.int (nI (sC lo hi)))) S
theorem cM_X1_strongest (G : xG) (l : Launch) : xM G l yX1_strongest cX1_strongest 1 (some FieldType.int) r_X1_strongest C_X1_strongest := by
  refine xM_of (fun Q => b_X1_strongest_0 Q) RX1 false (s_X1_strongest_0 G l) (by decide) rfl (by decide) ?_
  rintro av ⟨h, S2⟩ Q ⟨a, lo, hi, m, r, rfl, w, hlo, hhi, hQ⟩
  dsimp only at *
  refine ⟨Nat.le_of_ble_eq_true rfl, ?_⟩
  unfold sC at hQ
  simp only [q_c, x_iload, x_lload, x_aload, q_istore, q_lstore, q_astore, q_astore2, x_iinc, q_iadd, q_isub, q_imul, q_iand, q_ior, q_ixor, q_ladd, q_lsub, q_lmul, q_land, q_lor, q_lxor, q_idiv, q_irem, q_ldiv, q_lrem, q_ineg, q_lneg, q_ishl, q_ishr, q_iushr, q_lshl, q_lshr, q_lushr, q_i2l, q_l2i, q_i2b, q_i2c, q_lcmp, q_if_eq, q_if_ne, q_if_lt, q_if_ge, q_if_gt, q_if_le, q_icmp_eq, q_icmp_ne, q_icmp_lt, q_icmp_ge, q_icmp_gt, q_icmp_le, q_dup, q_pop, q_dup_x1, q_dup2, x_iret, x_zret, x_lret, x_aret, x_vret, x_call, x_callv, x_calli, x_oinit, x_mmax, x_mmin, x_mabs, x_mmaxL, x_mminL, x_mabsL, lg_cmp_ge, lg_cmp_le, lg_cmp_gt, lg_cmp_lt, lg_cmp_eq, xlk, q_xs1, q_xs2, lv_args, Value.category, List.filter_cons, List.filter_nil, Nat.reduceAdd, Nat.reduceBEq, Nat.reduceEqDiff, Nat.reduceSub, Nat.sub_zero, beq_self_eq_true, Bool.not_true, Bool.not_false, Bool.and_true, Bool.and_false, Bool.true_and, Bool.false_and, reduceIte, reduceCtorEq, Bool.false_eq_true, Nat.one_ne_zero, Nat.zero_ne_one, Nat.zero_add, Option.toList_some, Option.toList_none, List.nil_append, List.cons_append, List.take_succ_cons, List.take_zero, List.take_nil, List.drop_succ_cons, List.drop_zero, List.length_cons, List.length_nil, List.reverse_cons, List.reverse_nil, List.head?_cons, List.map_cons, List.map_nil, List.sum_cons, List.sum_nil, true_and, and_true, List.getElem?_cons_zero, List.getElem?_cons_succ, Prod.eta, x_iast, x_bald, x_bast, x_last, x_alen, xup_s, xup_a1, xup_1a, xup_uu, nr_i, nr_l, nr_o, nr_a, ft_i, ft_l, ft_o, ft_a, Nat.reduceLT, i_cl0, i_cl1, i_n1, i_m1, List.set_cons_zero, List.set_cons_succ, Nat.reduceLeDiff, Nat.le_refl, Nat.zero_le, Nat.add_zero, x_no, x_ifnull, x_ifnonnull, x_acmp_eq, x_acmp_ne, x_swl, x_tsw, x_castC, true_or, or_true, nr_z, ft_z, nr_z0, nr_z1, ft_z0, ft_z1, nr_on, nr_an, ft_on, ft_an, b_X1_strongest_0, b_X1_strongest_21]
  refine ⟨⟨_, _, rfl, w.1⟩, a, lo, hi, m, r, rfl, w, hlo, hhi, ?_⟩
  simp only [q_c, x_iload, x_lload, x_aload, q_istore, q_lstore, q_astore, q_astore2, x_iinc, q_iadd, q_isub, q_imul, q_iand, q_ior, q_ixor, q_ladd, q_lsub, q_lmul, q_land, q_lor, q_lxor, q_idiv, q_irem, q_ldiv, q_lrem, q_ineg, q_lneg, q_ishl, q_ishr, q_iushr, q_lshl, q_lshr, q_lushr, q_i2l, q_l2i, q_i2b, q_i2c, q_lcmp, q_if_eq, q_if_ne, q_if_lt, q_if_ge, q_if_gt, q_if_le, q_icmp_eq, q_icmp_ne, q_icmp_lt, q_icmp_ge, q_icmp_gt, q_icmp_le, q_dup, q_pop, q_dup_x1, q_dup2, x_iret, x_zret, x_lret, x_aret, x_vret, x_call, x_callv, x_calli, x_oinit, x_mmax, x_mmin, x_mabs, x_mmaxL, x_mminL, x_mabsL, lg_cmp_ge, lg_cmp_le, lg_cmp_gt, lg_cmp_lt, lg_cmp_eq, xlk, q_xs1, q_xs2, lv_args, Value.category, List.filter_cons, List.filter_nil, Nat.reduceAdd, Nat.reduceBEq, Nat.reduceEqDiff, Nat.reduceSub, Nat.sub_zero, beq_self_eq_true, Bool.not_true, Bool.not_false, Bool.and_true, Bool.and_false, Bool.true_and, Bool.false_and, reduceIte, reduceCtorEq, Bool.false_eq_true, Nat.one_ne_zero, Nat.zero_ne_one, Nat.zero_add, Option.toList_some, Option.toList_none, List.nil_append, List.cons_append, List.take_succ_cons, List.take_zero, List.take_nil, List.drop_succ_cons, List.drop_zero, List.length_cons, List.length_nil, List.reverse_cons, List.reverse_nil, List.head?_cons, List.map_cons, List.map_nil, List.sum_cons, List.sum_nil, true_and, and_true, List.getElem?_cons_zero, List.getElem?_cons_succ, Prod.eta, x_iast, x_bald, x_bast, x_last, x_alen, xup_s, xup_a1, xup_1a, xup_uu, nr_i, nr_l, nr_o, nr_a, ft_i, ft_l, ft_o, ft_a, Nat.reduceLT, i_cl0, i_cl1, i_n1, i_m1, List.set_cons_zero, List.set_cons_succ, Nat.reduceLeDiff, Nat.le_refl, Nat.zero_le, Nat.add_zero, x_no, x_ifnull, x_ifnonnull, x_acmp_eq, x_acmp_ne, x_swl, x_tsw, x_castC, true_or, or_true, nr_z, ft_z, nr_z0, nr_z1, ft_z0, ft_z1, nr_on, nr_an, ft_on, ft_an, bI_e0]
  refine ⟨fun x => ⟨⟨_, _, rfl, w.1⟩, a, lo, hi, m, r, rfl, w, hlo, hhi, ?_⟩, fun x => ?_⟩
  · rw [if_neg (by rw [x]; decide)] at hQ
    simp only [q_c, x_iload, x_lload, x_aload, q_istore, q_lstore, q_astore, q_astore2, x_iinc, q_iadd, q_isub, q_imul, q_iand, q_ior, q_ixor, q_ladd, q_lsub, q_lmul, q_land, q_lor, q_lxor, q_idiv, q_irem, q_ldiv, q_lrem, q_ineg, q_lneg, q_ishl, q_ishr, q_iushr, q_lshl, q_lshr, q_lushr, q_i2l, q_l2i, q_i2b, q_i2c, q_lcmp, q_if_eq, q_if_ne, q_if_lt, q_if_ge, q_if_gt, q_if_le, q_icmp_eq, q_icmp_ne, q_icmp_lt, q_icmp_ge, q_icmp_gt, q_icmp_le, q_dup, q_pop, q_dup_x1, q_dup2, x_iret, x_zret, x_lret, x_aret, x_vret, x_call, x_callv, x_calli, x_oinit, x_mmax, x_mmin, x_mabs, x_mmaxL, x_mminL, x_mabsL, lg_cmp_ge, lg_cmp_le, lg_cmp_gt, lg_cmp_lt, lg_cmp_eq, xlk, q_xs1, q_xs2, lv_args, Value.category, List.filter_cons, List.filter_nil, Nat.reduceAdd, Nat.reduceBEq, Nat.reduceEqDiff, Nat.reduceSub, Nat.sub_zero, beq_self_eq_true, Bool.not_true, Bool.not_false, Bool.and_true, Bool.and_false, Bool.true_and, Bool.false_and, reduceIte, reduceCtorEq, Bool.false_eq_true, Nat.one_ne_zero, Nat.zero_ne_one, Nat.zero_add, Option.toList_some, Option.toList_none, List.nil_append, List.cons_append, List.take_succ_cons, List.take_zero, List.take_nil, List.drop_succ_cons, List.drop_zero, List.length_cons, List.length_nil, List.reverse_cons, List.reverse_nil, List.head?_cons, List.map_cons, List.map_nil, List.sum_cons, List.sum_nil, true_and, and_true, List.getElem?_cons_zero, List.getElem?_cons_succ, Prod.eta, x_iast, x_bald, x_bast, x_last, x_alen, xup_s, xup_a1, xup_1a, xup_uu, nr_i, nr_l, nr_o, nr_a, ft_i, ft_l, ft_o, ft_a, Nat.reduceLT, i_cl0, i_cl1, i_n1, i_m1, List.set_cons_zero, List.set_cons_succ, Nat.reduceLeDiff, Nat.le_refl, Nat.zero_le, Nat.add_zero, x_no, x_ifnull, x_ifnonnull, x_acmp_eq, x_acmp_ne, x_swl, x_tsw, x_castC, true_or, or_true, nr_z, ft_z, nr_z0, nr_z1, ft_z0, ft_z1, nr_on, nr_an, ft_on, ft_an, bI_e0]
    refine ⟨fun y => ?_, fun y => ?_⟩
    · rw [if_neg (by rw [y]; decide)] at hQ
      exact hQ
    · rw [if_pos (eq_true_of_ne_false y)] at hQ
      exact hQ
  · rw [if_pos (eq_true_of_ne_false x)] at hQ
    exact hQ
theorem dX1_init_0 : decode cX1_init 0 = .ok (.aload_n 0, 1) := by decide +kernel
theorem dX1_init_1 : decode cX1_init 1 = .ok (.invokespecial 3, 3) := by decide +kernel
theorem dX1_init_4 : decode cX1_init 4 = .ok (.return_, 1) := by decide +kernel
abbrev r_X1_init : Room := { frames := 1, cells := 0, slots := 0, locals := 12 }
abbrev m_X1_init : xMd := (cX1_init, RX1, 1, none, true, r_X1_init)
def b_X1_init_0 (Q : xQ) : xK := x_aload 0 <| x_oinit <| x_vret Q
theorem s_X1_init_0 (G : xG) (l : Launch) (Q : xQ) : xW G l m_X1_init xX0 (xPm G Q r_X1_init) 0 (b_X1_init_0 Q) := xo_aload_n (pc := 0) (i := 0) dX1_init_0 rfl <| xo_oinit (pc := 1) dX1_init_1 kw345 kw36 kw37 (by decide) <| xo_vret (pc := 4) rfl dX1_init_4

def C_X1_init : xC := fun av S Q => ∃ a : Nat, av = [.ref a] ∧ Q none S
theorem cM_X1_init (G : xG) (l : Launch) : xM G l yX1_init cX1_init 1 none r_X1_init C_X1_init := by
  refine xM_of (fun Q => b_X1_init_0 Q) RX1 true (s_X1_init_0 G l) (by decide) rfl (by decide) ?_
  rintro av ⟨h, S2⟩ Q ⟨a, rfl, hQ⟩
  refine ⟨Nat.le_of_ble_eq_true rfl, ?_⟩
  simp only [q_c, x_iload, x_lload, x_aload, q_istore, q_lstore, q_astore, q_astore2, x_iinc, q_iadd, q_isub, q_imul, q_iand, q_ior, q_ixor, q_ladd, q_lsub, q_lmul, q_land, q_lor, q_lxor, q_idiv, q_irem, q_ldiv, q_lrem, q_ineg, q_lneg, q_ishl, q_ishr, q_iushr, q_lshl, q_lshr, q_lushr, q_i2l, q_l2i, q_i2b, q_i2c, q_lcmp, q_if_eq, q_if_ne, q_if_lt, q_if_ge, q_if_gt, q_if_le, q_icmp_eq, q_icmp_ne, q_icmp_lt, q_icmp_ge, q_icmp_gt, q_icmp_le, q_dup, q_pop, q_dup_x1, q_dup2, x_iret, x_zret, x_lret, x_aret, x_vret, x_call, x_callv, x_calli, x_oinit, x_mmax, x_mmin, x_mabs, x_mmaxL, x_mminL, x_mabsL, lg_cmp_ge, lg_cmp_le, lg_cmp_gt, lg_cmp_lt, lg_cmp_eq, xlk, q_xs1, q_xs2, lv_args, Value.category, List.filter_cons, List.filter_nil, Nat.reduceAdd, Nat.reduceBEq, Nat.reduceEqDiff, Nat.reduceSub, Nat.sub_zero, beq_self_eq_true, Bool.not_true, Bool.not_false, Bool.and_true, Bool.and_false, Bool.true_and, Bool.false_and, reduceIte, reduceCtorEq, Bool.false_eq_true, Nat.one_ne_zero, Nat.zero_ne_one, Nat.zero_add, Option.toList_some, Option.toList_none, List.nil_append, List.cons_append, List.take_succ_cons, List.take_zero, List.take_nil, List.drop_succ_cons, List.drop_zero, List.length_cons, List.length_nil, List.reverse_cons, List.reverse_nil, List.head?_cons, List.map_cons, List.map_nil, List.sum_cons, List.sum_nil, true_and, and_true, List.getElem?_cons_zero, List.getElem?_cons_succ, Prod.eta, x_iast, x_bald, x_bast, x_last, x_alen, xup_s, xup_a1, xup_1a, xup_uu, nr_i, nr_l, nr_o, nr_a, ft_i, ft_l, ft_o, ft_a, Nat.reduceLT, i_cl0, i_cl1, i_n1, i_m1, List.set_cons_zero, List.set_cons_succ, Nat.reduceLeDiff, Nat.le_refl, Nat.zero_le, Nat.add_zero, x_no, x_ifnull, x_ifnonnull, x_acmp_eq, x_acmp_ne, x_swl, x_tsw, x_castC, true_or, or_true, nr_z, ft_z, nr_z0, nr_z1, ft_z0, ft_z1, nr_on, nr_an, ft_on, ft_an, b_X1_init_0]
  exact hQ
theorem dX1_become_0 : decode cX1_become 0 = .ok (.aload_n 0, 1) := by decide +kernel
theorem dX1_become_1 : decode cX1_become 1 = .ok (.lload_n 1, 1) := by decide +kernel
theorem dX1_become_2 : decode cX1_become 2 = .ok (.putfield 9, 3) := by decide +kernel
theorem dX1_become_5 : decode cX1_become 5 = .ok (.aload_n 0, 1) := by decide +kernel
theorem dX1_become_6 : decode cX1_become 6 = .ok (.lload_n 3, 1) := by decide +kernel
theorem dX1_become_7 : decode cX1_become 7 = .ok (.putfield 15, 3) := by decide +kernel
theorem dX1_become_10 : decode cX1_become 10 = .ok (.return_, 1) := by decide +kernel
abbrev r_X1_become : Room := { frames := 0, cells := 0, slots := 0, locals := 0 }
abbrev m_X1_become : xMd := (cX1_become, RX1, 5, none, false, r_X1_become)
def b_X1_become_0 (Q : xQ) : xK := x_aload 0 <| x_lload 1 <| x_put 2 0 .long <| x_aload 0 <| x_lload 3 <| x_put 2 1 .long <| x_vret Q
theorem s_X1_become_0 (G : xG) (l : Launch) (Q : xQ) : xW G l m_X1_become xX0 (xPm G Q r_X1_become) 0 (b_X1_become_0 Q) := xo_aload_n (pc := 0) (i := 0) dX1_become_0 rfl <| xo_lload_n (pc := 1) (i := 1) dX1_become_1 rfl <| xo_put (pc := 2) (ci := 2) (i := 0) rfl ok2 (by decide) rfl rfl dX1_become_2 kw346 <| xo_aload_n (pc := 5) (i := 0) dX1_become_5 rfl <| xo_lload_n (pc := 6) (i := 3) dX1_become_6 rfl <| xo_put (pc := 7) (ci := 2) (i := 1) rfl ok2 (by decide) rfl rfl dX1_become_7 kw353 <| xo_vret (pc := 10) rfl dX1_become_10

def C_X1_become : xC := fun av S Q => ∃ (a : Nat) (lo hi lo' hi' : Int) (m : Nat) (r : List Value), av = [.ref a, .long (lZ lo'), .long (lZ hi')] ∧ clR S.1 a lo hi m r ∧ ∀ h', xoff h' S.1 a (a + 1) → clR h' a lo' hi' m r → Q none (h', S.2)
theorem cM_X1_become (G : xG) (l : Launch) : xM G l yX1_become cX1_become 5 none r_X1_become C_X1_become := by
  refine xM_of (fun Q => b_X1_become_0 Q) RX1 false (s_X1_become_0 G l) (by decide) rfl (by decide) ?_
  rintro av ⟨h, S2⟩ Q ⟨a, lo, hi, lo', hi', m, r, rfl, w, hQ⟩
  dsimp only at *
  refine ⟨Nat.le_of_ble_eq_true rfl, ?_⟩
  have l6 := w.2
  have w1 := w.1
  have c0 : ∀ (x y z : Value), 0 < (x :: y :: z :: r).length := fun x y z => by simp
  have c1 : ∀ (x y z : Value), 1 < (x :: y :: z :: r).length := fun x y z => by simp
  simp only [q_c, x_iload, x_lload, x_aload, q_istore, q_lstore, q_astore, q_astore2, x_iinc, q_iadd, q_isub, q_imul, q_iand, q_ior, q_ixor, q_ladd, q_lsub, q_lmul, q_land, q_lor, q_lxor, q_idiv, q_irem, q_ldiv, q_lrem, q_ineg, q_lneg, q_ishl, q_ishr, q_iushr, q_lshl, q_lshr, q_lushr, q_i2l, q_l2i, q_i2b, q_i2c, q_lcmp, q_if_eq, q_if_ne, q_if_lt, q_if_ge, q_if_gt, q_if_le, q_icmp_eq, q_icmp_ne, q_icmp_lt, q_icmp_ge, q_icmp_gt, q_icmp_le, q_dup, q_pop, q_dup_x1, q_dup2, x_iret, x_zret, x_lret, x_aret, x_vret, x_call, x_callv, x_calli, x_oinit, x_mmax, x_mmin, x_mabs, x_mmaxL, x_mminL, x_mabsL, lg_cmp_ge, lg_cmp_le, lg_cmp_gt, lg_cmp_lt, lg_cmp_eq, xlk, q_xs1, q_xs2, lv_args, Value.category, List.filter_cons, List.filter_nil, Nat.reduceAdd, Nat.reduceBEq, Nat.reduceEqDiff, Nat.reduceSub, Nat.sub_zero, beq_self_eq_true, Bool.not_true, Bool.not_false, Bool.and_true, Bool.and_false, Bool.true_and, Bool.false_and, reduceIte, reduceCtorEq, Bool.false_eq_true, Nat.one_ne_zero, Nat.zero_ne_one, Nat.zero_add, Option.toList_some, Option.toList_none, List.nil_append, List.cons_append, List.take_succ_cons, List.take_zero, List.take_nil, List.drop_succ_cons, List.drop_zero, List.length_cons, List.length_nil, List.reverse_cons, List.reverse_nil, List.head?_cons, List.map_cons, List.map_nil, List.sum_cons, List.sum_nil, true_and, and_true, List.getElem?_cons_zero, List.getElem?_cons_succ, Prod.eta, x_iast, x_bald, x_bast, x_last, x_alen, xup_s, xup_a1, xup_1a, xup_uu, nr_i, nr_l, nr_o, nr_a, ft_i, ft_l, ft_o, ft_a, Nat.reduceLT, i_cl0, i_cl1, i_n1, i_m1, List.set_cons_zero, List.set_cons_succ, Nat.reduceLeDiff, Nat.le_refl, Nat.zero_le, Nat.add_zero, x_no, x_ifnull, x_ifnonnull, x_acmp_eq, x_acmp_ne, x_swl, x_tsw, x_castC, true_or, or_true, nr_z, ft_z, nr_z0, nr_z1, ft_z0, ft_z1, nr_on, nr_an, ft_on, ft_an, b_X1_become_0, x_put, w1, l6]
  exact hQ _ (off1 (r := a)) ⟨xup_s, l6⟩
theorem dX4_isNan_0 : decode cX4_isNan 0 = .ok (.lload_n 0, 1) := by decide +kernel
theorem dX4_isNan_1 : decode cX4_isNan 1 = .ok (.ldc2_w 11, 3) := by decide +kernel
theorem dX4_isNan_4 : decode cX4_isNan 4 = .ok (.land, 1) := by decide +kernel
theorem dX4_isNan_5 : decode cX4_isNan 5 = .ok (.ldc2_w 13, 3) := by decide +kernel
theorem dX4_isNan_8 : decode cX4_isNan 8 = .ok (.lcmp, 1) := by decide +kernel
theorem dX4_isNan_9 : decode cX4_isNan 9 = .ok (.ifCond .le 7, 3) := by decide +kernel
theorem dX4_isNan_12 : decode cX4_isNan 12 = .ok (.iconst 1, 1) := by decide +kernel
theorem dX4_isNan_13 : decode cX4_isNan 13 = .ok (.goto 4, 3) := by decide +kernel
theorem dX4_isNan_16 : decode cX4_isNan 16 = .ok (.iconst 0, 1) := by decide +kernel
theorem dX4_isNan_17 : decode cX4_isNan 17 = .ok (.ireturn, 1) := by decide +kernel
abbrev r_X4_isNan : Room := { frames := 0, cells := 0, slots := 0, locals := 0 }
abbrev m_X4_isNan : xMd := (cX4_isNan, RX4, 2, (some FieldType.boolean), false, r_X4_isNan)
def b_X4_isNan_17 (Q : xQ) : xK := x_zret FieldType.boolean Q
def b_X4_isNan_0 (Q : xQ) : xK := x_lload 0 <| x_c (.long 9223372036854775807) <| x_land <| x_c (.long 9218868437227405312) <| x_lcmp <| x_if_le (x_c (.int 0) <| (b_X4_isNan_17 Q)) <| x_c (.int 1) <| (b_X4_isNan_17 Q)
theorem s_X4_isNan_17 (G : xG) (l : Launch) (Q : xQ) : xW G l m_X4_isNan xX0 (xPm G Q r_X4_isNan) 17 (b_X4_isNan_17 Q) := xo_zret (pc := 17) rfl dX4_isNan_17
theorem s_X4_isNan_0 (G : xG) (l : Launch) (Q : xQ) : xW G l m_X4_isNan xX0 (xPm G Q r_X4_isNan) 0 (b_X4_isNan_0 Q) := xo_lload_n (pc := 0) (i := 0) dX4_isNan_0 rfl <| xo_ldc2_w (pc := 1) dX4_isNan_1 kw779 <| xo_land (pc := 4) dX4_isNan_4 <| xo_ldc2_w (pc := 5) dX4_isNan_5 kw783 <| xo_lcmp (pc := 8) dX4_isNan_8 <| xo_if_le (pc := 9) (tgt := 16) dX4_isNan_9 (by decide) (xo_iconst (pc := 16) dX4_isNan_16 (by decide) <| (s_X4_isNan_17 G l Q)) <| xo_iconst (pc := 12) dX4_isNan_12 (by decide) <| xo_goto (pc := 13) (tgt := 17) dX4_isNan_13 (by decide) <| (s_X4_isNan_17 G l Q)

def C_X4_isNan : xC := fun av S Q => ∃ u : Nat, av = [.long (lN u)] ∧ u < 2 ^ 64 ∧ Q (some (.int (bI (decide (9218868437227405312 < u % 2 ^ 63))))) S
theorem cM_X4_isNan (G : xG) (l : Launch) : xM G l yX4_isNan cX4_isNan 2 (some FieldType.boolean) r_X4_isNan C_X4_isNan := by
  refine xM_of (fun Q => b_X4_isNan_0 Q) RX4 false (s_X4_isNan_0 G l) (by decide) rfl (by decide) ?_
  rintro av S Q ⟨u, rfl, hu, hQ⟩
  refine ⟨Nat.le_of_ble_eq_true rfl, ?_⟩
  have fin : ∀ t, t = decide (9218868437227405312 < u % 2 ^ 63) → Q (some (.int (bI t))) S := fun t ht => by rw [ht]; exact hQ
  have e1 : lN (u % 2 ^ 63) ≤ 9218868437227405312 ↔ u % 2 ^ 63 ≤ 9218868437227405312 := pk_lLE (b := 9218868437227405312) (by omega) (by decide)
  simp only [q_c, x_iload, x_lload, x_aload, q_istore, q_lstore, q_astore, q_astore2, x_iinc, q_iadd, q_isub, q_imul, q_iand, q_ior, q_ixor, q_ladd, q_lsub, q_lmul, q_land, q_lor, q_lxor, q_idiv, q_irem, q_ldiv, q_lrem, q_ineg, q_lneg, q_ishl, q_ishr, q_iushr, q_lshl, q_lshr, q_lushr, q_i2l, q_l2i, q_i2b, q_i2c, q_lcmp, q_if_eq, q_if_ne, q_if_lt, q_if_ge, q_if_gt, q_if_le, q_icmp_eq, q_icmp_ne, q_icmp_lt, q_icmp_ge, q_icmp_gt, q_icmp_le, q_dup, q_pop, q_dup_x1, q_dup2, x_iret, x_zret, x_lret, x_aret, x_vret, x_call, x_callv, x_calli, x_oinit, x_mmax, x_mmin, x_mabs, x_mmaxL, x_mminL, x_mabsL, lg_cmp_ge, lg_cmp_le, lg_cmp_gt, lg_cmp_lt, lg_cmp_eq, xlk, q_xs1, q_xs2, lv_args, Value.category, List.filter_cons, List.filter_nil, Nat.reduceAdd, Nat.reduceBEq, Nat.reduceEqDiff, Nat.reduceSub, Nat.sub_zero, beq_self_eq_true, Bool.not_true, Bool.not_false, Bool.and_true, Bool.and_false, Bool.true_and, Bool.false_and, reduceIte, reduceCtorEq, Bool.false_eq_true, Nat.one_ne_zero, Nat.zero_ne_one, Nat.zero_add, Option.toList_some, Option.toList_none, List.nil_append, List.cons_append, List.take_succ_cons, List.take_zero, List.take_nil, List.drop_succ_cons, List.drop_zero, List.length_cons, List.length_nil, List.reverse_cons, List.reverse_nil, List.head?_cons, List.map_cons, List.map_nil, List.sum_cons, List.sum_nil, true_and, and_true, List.getElem?_cons_zero, List.getElem?_cons_succ, Prod.eta, x_iast, x_bald, x_bast, x_last, x_alen, xup_s, xup_a1, xup_1a, xup_uu, nr_i, nr_l, nr_o, nr_a, ft_i, ft_l, ft_o, ft_a, Nat.reduceLT, i_cl0, i_cl1, i_n1, i_m1, List.set_cons_zero, List.set_cons_succ, Nat.reduceLeDiff, Nat.le_refl, Nat.zero_le, Nat.add_zero, x_no, x_ifnull, x_ifnonnull, x_acmp_eq, x_acmp_ne, x_swl, x_tsw, x_castC, true_or, or_true, nr_z, ft_z, nr_z0, nr_z1, ft_z0, ft_z1, nr_on, nr_an, ft_on, ft_an, b_X4_isNan_0, b_X4_isNan_17, lN_m63 hu, e1]
  exact ⟨fun x => fin false (decide_eq_false (by omega)).symm, fun x => fin true (decide_eq_true (by omega)).symm⟩
theorem dX4_rankOf_0 : decode cX4_rankOf 0 = .ok (.lload_n 0, 1) := by decide +kernel
theorem dX4_rankOf_1 : decode cX4_rankOf 1 = .ok (.ldc2_w 11, 3) := by decide +kernel
theorem dX4_rankOf_4 : decode cX4_rankOf 4 = .ok (.land, 1) := by decide +kernel
theorem dX4_rankOf_5 : decode cX4_rankOf 5 = .ok (.lstore_n 2, 1) := by decide +kernel
theorem dX4_rankOf_6 : decode cX4_rankOf 6 = .ok (.lload_n 0, 1) := by decide +kernel
theorem dX4_rankOf_7 : decode cX4_rankOf 7 = .ok (.lconst 0, 1) := by decide +kernel
theorem dX4_rankOf_8 : decode cX4_rankOf 8 = .ok (.lcmp, 1) := by decide +kernel
theorem dX4_rankOf_9 : decode cX4_rankOf 9 = .ok (.ifCond .ge 8, 3) := by decide +kernel
theorem dX4_rankOf_12 : decode cX4_rankOf 12 = .ok (.lload_n 2, 1) := by decide +kernel
theorem dX4_rankOf_13 : decode cX4_rankOf 13 = .ok (.lneg, 1) := by decide +kernel
theorem dX4_rankOf_14 : decode cX4_rankOf 14 = .ok (.goto 4, 3) := by decide +kernel
theorem dX4_rankOf_17 : decode cX4_rankOf 17 = .ok (.lload_n 2, 1) := by decide +kernel
theorem dX4_rankOf_18 : decode cX4_rankOf 18 = .ok (.lreturn, 1) := by decide +kernel
abbrev r_X4_rankOf : Room := { frames := 0, cells := 0, slots := 0, locals := 0 }
abbrev m_X4_rankOf : xMd := (cX4_rankOf, RX4, 4, (some FieldType.long), false, r_X4_rankOf)
def b_X4_rankOf_18 (Q : xQ) : xK := x_lret Q
def b_X4_rankOf_0 (Q : xQ) : xK := x_lload 0 <| x_c (.long 9223372036854775807) <| x_land <| x_lstore 2 <| x_lload 0 <| x_c (.long 0) <| x_lcmp <| x_if_ge (x_lload 2 <| (b_X4_rankOf_18 Q)) <| x_lload 2 <| x_lneg <| (b_X4_rankOf_18 Q)
theorem s_X4_rankOf_18 (G : xG) (l : Launch) (Q : xQ) : xW G l m_X4_rankOf xX0 (xPm G Q r_X4_rankOf) 18 (b_X4_rankOf_18 Q) := xo_lret (pc := 18) rfl dX4_rankOf_18
theorem s_X4_rankOf_0 (G : xG) (l : Launch) (Q : xQ) : xW G l m_X4_rankOf xX0 (xPm G Q r_X4_rankOf) 0 (b_X4_rankOf_0 Q) := xo_lload_n (pc := 0) (i := 0) dX4_rankOf_0 rfl <| xo_ldc2_w (pc := 1) dX4_rankOf_1 kw779 <| xo_land (pc := 4) dX4_rankOf_4 <| xo_lstore_n (pc := 5) (i := 2) dX4_rankOf_5 rfl (by decide) <| xo_lload_n (pc := 6) (i := 0) dX4_rankOf_6 rfl <| xo_lconst (pc := 7) dX4_rankOf_7 (by decide) <| xo_lcmp (pc := 8) dX4_rankOf_8 <| xo_if_ge (pc := 9) (tgt := 17) dX4_rankOf_9 (by decide) (xo_lload_n (pc := 17) (i := 2) dX4_rankOf_17 rfl <| (s_X4_rankOf_18 G l Q)) <| xo_lload_n (pc := 12) (i := 2) dX4_rankOf_12 rfl <| xo_lneg (pc := 13) dX4_rankOf_13 <| xo_goto (pc := 14) (tgt := 18) dX4_rankOf_14 (by decide) <| (s_X4_rankOf_18 G l Q)

def C_X4_rankOf : xC := fun av S Q => ∃ u : Nat, av = [.long (lN u)] ∧ u < 2 ^ 64 ∧ Q (some (.long (lZ (ordB u)))) S
theorem cM_X4_rankOf (G : xG) (l : Launch) : xM G l yX4_rankOf cX4_rankOf 4 (some FieldType.long) r_X4_rankOf C_X4_rankOf := by
  refine xM_of (fun Q => b_X4_rankOf_0 Q) RX4 false (s_X4_rankOf_0 G l) (by decide) rfl (by decide) ?_
  rintro av S Q ⟨u, rfl, hu, hQ⟩
  refine ⟨Nat.le_of_ble_eq_true rfl, ?_⟩
  have e1 : -lN (u % 2 ^ 63) = lZ (-((u % 2 ^ 63 : Nat) : Int)) := by rw [← lZ_nat, lZ_neg]
  simp only [q_c, x_iload, x_lload, x_aload, q_istore, q_lstore, q_astore, q_astore2, x_iinc, q_iadd, q_isub, q_imul, q_iand, q_ior, q_ixor, q_ladd, q_lsub, q_lmul, q_land, q_lor, q_lxor, q_idiv, q_irem, q_ldiv, q_lrem, q_ineg, q_lneg, q_ishl, q_ishr, q_iushr, q_lshl, q_lshr, q_lushr, q_i2l, q_l2i, q_i2b, q_i2c, q_lcmp, q_if_eq, q_if_ne, q_if_lt, q_if_ge, q_if_gt, q_if_le, q_icmp_eq, q_icmp_ne, q_icmp_lt, q_icmp_ge, q_icmp_gt, q_icmp_le, q_dup, q_pop, q_dup_x1, q_dup2, x_iret, x_zret, x_lret, x_aret, x_vret, x_call, x_callv, x_calli, x_oinit, x_mmax, x_mmin, x_mabs, x_mmaxL, x_mminL, x_mabsL, lg_cmp_ge, lg_cmp_le, lg_cmp_gt, lg_cmp_lt, lg_cmp_eq, xlk, q_xs1, q_xs2, lv_args, Value.category, List.filter_cons, List.filter_nil, Nat.reduceAdd, Nat.reduceBEq, Nat.reduceEqDiff, Nat.reduceSub, Nat.sub_zero, beq_self_eq_true, Bool.not_true, Bool.not_false, Bool.and_true, Bool.and_false, Bool.true_and, Bool.false_and, reduceIte, reduceCtorEq, Bool.false_eq_true, Nat.one_ne_zero, Nat.zero_ne_one, Nat.zero_add, Option.toList_some, Option.toList_none, List.nil_append, List.cons_append, List.take_succ_cons, List.take_zero, List.take_nil, List.drop_succ_cons, List.drop_zero, List.length_cons, List.length_nil, List.reverse_cons, List.reverse_nil, List.head?_cons, List.map_cons, List.map_nil, List.sum_cons, List.sum_nil, true_and, and_true, List.getElem?_cons_zero, List.getElem?_cons_succ, Prod.eta, x_iast, x_bald, x_bast, x_last, x_alen, xup_s, xup_a1, xup_1a, xup_uu, nr_i, nr_l, nr_o, nr_a, ft_i, ft_l, ft_o, ft_a, Nat.reduceLT, i_cl0, i_cl1, i_n1, i_m1, List.set_cons_zero, List.set_cons_succ, Nat.reduceLeDiff, Nat.le_refl, Nat.zero_le, Nat.add_zero, x_no, x_ifnull, x_ifnonnull, x_acmp_eq, x_acmp_ne, x_swl, x_tsw, x_castC, true_or, or_true, nr_z, ft_z, nr_z0, nr_z1, ft_z0, ft_z1, nr_on, nr_an, ft_on, ft_an, b_X4_rankOf_0, b_X4_rankOf_18, lN_lt0 hu, lN_m63 hu, e1]
  refine ⟨fun z => ?_, fun z => ?_⟩
  · have : ordB u = ((u % 2 ^ 63 : Nat) : Int) := by unfold ordB; rw [if_neg z]; omega
    rw [this, lZ_nat] at hQ
    exact hQ
  · have : ordB u = -((u % 2 ^ 63 : Nat) : Int) := by unfold ordB; split <;> omega
    rw [this] at hQ
    exact hQ
theorem dX4_bitsOf_0 : decode cX4_bitsOf 0 = .ok (.lload_n 0, 1) := by decide +kernel
theorem dX4_bitsOf_1 : decode cX4_bitsOf 1 = .ok (.lconst 0, 1) := by decide +kernel
theorem dX4_bitsOf_2 : decode cX4_bitsOf 2 = .ok (.lcmp, 1) := by decide +kernel
theorem dX4_bitsOf_3 : decode cX4_bitsOf 3 = .ok (.ifCond .ge 12, 3) := by decide +kernel
theorem dX4_bitsOf_6 : decode cX4_bitsOf 6 = .ok (.lload_n 0, 1) := by decide +kernel
theorem dX4_bitsOf_7 : decode cX4_bitsOf 7 = .ok (.lneg, 1) := by decide +kernel
theorem dX4_bitsOf_8 : decode cX4_bitsOf 8 = .ok (.ldc2_w 15, 3) := by decide +kernel
theorem dX4_bitsOf_11 : decode cX4_bitsOf 11 = .ok (.lor, 1) := by decide +kernel
theorem dX4_bitsOf_12 : decode cX4_bitsOf 12 = .ok (.goto 4, 3) := by decide +kernel
theorem dX4_bitsOf_15 : decode cX4_bitsOf 15 = .ok (.lload_n 0, 1) := by decide +kernel
theorem dX4_bitsOf_16 : decode cX4_bitsOf 16 = .ok (.lreturn, 1) := by decide +kernel
abbrev r_X4_bitsOf : Room := { frames := 0, cells := 0, slots := 0, locals := 0 }
abbrev m_X4_bitsOf : xMd := (cX4_bitsOf, RX4, 2, (some FieldType.long), false, r_X4_bitsOf)
def b_X4_bitsOf_16 (Q : xQ) : xK := x_lret Q
def b_X4_bitsOf_0 (Q : xQ) : xK := x_lload 0 <| x_c (.long 0) <| x_lcmp <| x_if_ge (x_lload 0 <| (b_X4_bitsOf_16 Q)) <| x_lload 0 <| x_lneg <| x_c (.long (-9223372036854775808)) <| x_lor <| (b_X4_bitsOf_16 Q)
theorem s_X4_bitsOf_16 (G : xG) (l : Launch) (Q : xQ) : xW G l m_X4_bitsOf xX0 (xPm G Q r_X4_bitsOf) 16 (b_X4_bitsOf_16 Q) := xo_lret (pc := 16) rfl dX4_bitsOf_16
theorem s_X4_bitsOf_0 (G : xG) (l : Launch) (Q : xQ) : xW G l m_X4_bitsOf xX0 (xPm G Q r_X4_bitsOf) 0 (b_X4_bitsOf_0 Q) := xo_lload_n (pc := 0) (i := 0) dX4_bitsOf_0 rfl <| xo_lconst (pc := 1) dX4_bitsOf_1 (by decide) <| xo_lcmp (pc := 2) dX4_bitsOf_2 <| xo_if_ge (pc := 3) (tgt := 15) dX4_bitsOf_3 (by decide) (xo_lload_n (pc := 15) (i := 0) dX4_bitsOf_15 rfl <| (s_X4_bitsOf_16 G l Q)) <| xo_lload_n (pc := 6) (i := 0) dX4_bitsOf_6 rfl <| xo_lneg (pc := 7) dX4_bitsOf_7 <| xo_ldc2_w (pc := 8) dX4_bitsOf_8 kw994 <| xo_lor (pc := 11) dX4_bitsOf_11 <| xo_goto (pc := 12) (tgt := 16) dX4_bitsOf_12 (by decide) <| (s_X4_bitsOf_16 G l Q)

def C_X4_bitsOf : xC := fun av S Q => ∃ k : Int, av = [.long (lZ k)] ∧ oF k ∧ Q (some (.long (lN (foB k)))) S
theorem cM_X4_bitsOf (G : xG) (l : Launch) : xM G l yX4_bitsOf cX4_bitsOf 2 (some FieldType.long) r_X4_bitsOf C_X4_bitsOf := by
  refine xM_of (fun Q => b_X4_bitsOf_0 Q) RX4 false (s_X4_bitsOf_0 G l) (by decide) rfl (by decide) ?_
  rintro av S Q ⟨k, rfl, hk, hQ⟩
  refine ⟨Nat.le_of_ble_eq_true rfl, ?_⟩
  obtain ⟨k1, k2⟩ := id hk
  simp only [q_c, x_iload, x_lload, x_aload, q_istore, q_lstore, q_astore, q_astore2, x_iinc, q_iadd, q_isub, q_imul, q_iand, q_ior, q_ixor, q_ladd, q_lsub, q_lmul, q_land, q_lor, q_lxor, q_idiv, q_irem, q_ldiv, q_lrem, q_ineg, q_lneg, q_ishl, q_ishr, q_iushr, q_lshl, q_lshr, q_lushr, q_i2l, q_l2i, q_i2b, q_i2c, q_lcmp, q_if_eq, q_if_ne, q_if_lt, q_if_ge, q_if_gt, q_if_le, q_icmp_eq, q_icmp_ne, q_icmp_lt, q_icmp_ge, q_icmp_gt, q_icmp_le, q_dup, q_pop, q_dup_x1, q_dup2, x_iret, x_zret, x_lret, x_aret, x_vret, x_call, x_callv, x_calli, x_oinit, x_mmax, x_mmin, x_mabs, x_mmaxL, x_mminL, x_mabsL, lg_cmp_ge, lg_cmp_le, lg_cmp_gt, lg_cmp_lt, lg_cmp_eq, xlk, q_xs1, q_xs2, lv_args, Value.category, List.filter_cons, List.filter_nil, Nat.reduceAdd, Nat.reduceBEq, Nat.reduceEqDiff, Nat.reduceSub, Nat.sub_zero, beq_self_eq_true, Bool.not_true, Bool.not_false, Bool.and_true, Bool.and_false, Bool.true_and, Bool.false_and, reduceIte, reduceCtorEq, Bool.false_eq_true, Nat.one_ne_zero, Nat.zero_ne_one, Nat.zero_add, Option.toList_some, Option.toList_none, List.nil_append, List.cons_append, List.take_succ_cons, List.take_zero, List.take_nil, List.drop_succ_cons, List.drop_zero, List.length_cons, List.length_nil, List.reverse_cons, List.reverse_nil, List.head?_cons, List.map_cons, List.map_nil, List.sum_cons, List.sum_nil, true_and, and_true, List.getElem?_cons_zero, List.getElem?_cons_succ, Prod.eta, x_iast, x_bald, x_bast, x_last, x_alen, xup_s, xup_a1, xup_1a, xup_uu, nr_i, nr_l, nr_o, nr_a, ft_i, ft_l, ft_o, ft_a, Nat.reduceLT, i_cl0, i_cl1, i_n1, i_m1, List.set_cons_zero, List.set_cons_succ, Nat.reduceLeDiff, Nat.le_refl, Nat.zero_le, Nat.add_zero, x_no, x_ifnull, x_ifnonnull, x_acmp_eq, x_acmp_ne, x_swl, x_tsw, x_castC, true_or, or_true, nr_z, ft_z, nr_z0, nr_z1, ft_z0, ft_z1, nr_on, nr_an, ft_on, ft_an, b_X4_bitsOf_0, b_X4_bitsOf_16, lz_ge0 hk, lZ_neg]
  unfold foB at hQ
  refine ⟨fun z => ?_, fun z => ?_⟩
  · rw [if_neg (by omega)] at hQ
    rw [lZ_pos z]
    exact hQ
  · rw [if_pos (by omega)] at hQ
    have o1 : lN (-k).toNat ||| -9223372036854775808 = lN (2 ^ 63 + (-k).toNat) := by
      rw [show (-9223372036854775808 : Int64) = lN (1 * 2 ^ 63) by decide, g_or' (k := 63) rfl (by omega) (by omega), Nat.add_comm, Nat.one_mul]
    rw [lZ_pos (by omega), o1]
    exact hQ
theorem dX4_scale_0 : decode cX4_scale 0 = .ok (.lload_n 0, 1) := by decide +kernel
theorem dX4_scale_1 : decode cX4_scale 1 = .ok (.bipush 52, 2) := by decide +kernel
theorem dX4_scale_3 : decode cX4_scale 3 = .ok (.lushr, 1) := by decide +kernel
theorem dX4_scale_4 : decode cX4_scale 4 = .ok (.l2i, 1) := by decide +kernel
theorem dX4_scale_5 : decode cX4_scale 5 = .ok (.ireturn, 1) := by decide +kernel
abbrev r_X4_scale : Room := { frames := 0, cells := 0, slots := 0, locals := 0 }
abbrev m_X4_scale : xMd := (cX4_scale, RX4, 2, (some FieldType.int), false, r_X4_scale)
def b_X4_scale_0 (Q : xQ) : xK := x_lload 0 <| x_c (.int 52) <| x_lushr <| x_l2i <| x_iret Q
theorem s_X4_scale_0 (G : xG) (l : Launch) (Q : xQ) : xW G l m_X4_scale xX0 (xPm G Q r_X4_scale) 0 (b_X4_scale_0 Q) := xo_lload_n (pc := 0) (i := 0) dX4_scale_0 rfl <| xo_bipush (pc := 1) dX4_scale_1 (by decide) <| xo_lushr (pc := 3) dX4_scale_3 <| xo_l2i (pc := 4) dX4_scale_4 <| xo_iret (pc := 5) rfl dX4_scale_5

def C_X4_scale : xC := fun av S Q => ∃ u : Nat, av = [.long (lN u)] ∧ u < 2 ^ 63 ∧ Q (some (.int (nI (u / 2 ^ 52)))) S
theorem cM_X4_scale (G : xG) (l : Launch) : xM G l yX4_scale cX4_scale 2 (some FieldType.int) r_X4_scale C_X4_scale := by
  refine xM_of (fun Q => b_X4_scale_0 Q) RX4 false (s_X4_scale_0 G l) (by decide) rfl (by decide) ?_
  rintro av S Q ⟨u, rfl, hu, hQ⟩
  refine ⟨Nat.le_of_ble_eq_true rfl, ?_⟩
  have s52 : ((lN u).toUInt64 >>> ((52 : Int32).toInt64.toUInt64 &&& Int64.toUInt64 63)).toInt64 = lN (u / 2 ^ 52) := wb_shr (k := 52) (by omega) (by decide)
  simp only [q_c, x_iload, x_lload, x_aload, q_istore, q_lstore, q_astore, q_astore2, x_iinc, q_iadd, q_isub, q_imul, q_iand, q_ior, q_ixor, q_ladd, q_lsub, q_lmul, q_land, q_lor, q_lxor, q_idiv, q_irem, q_ldiv, q_lrem, q_ineg, q_lneg, q_ishl, q_ishr, q_iushr, q_lshl, q_lshr, q_lushr, q_i2l, q_l2i, q_i2b, q_i2c, q_lcmp, q_if_eq, q_if_ne, q_if_lt, q_if_ge, q_if_gt, q_if_le, q_icmp_eq, q_icmp_ne, q_icmp_lt, q_icmp_ge, q_icmp_gt, q_icmp_le, q_dup, q_pop, q_dup_x1, q_dup2, x_iret, x_zret, x_lret, x_aret, x_vret, x_call, x_callv, x_calli, x_oinit, x_mmax, x_mmin, x_mabs, x_mmaxL, x_mminL, x_mabsL, lg_cmp_ge, lg_cmp_le, lg_cmp_gt, lg_cmp_lt, lg_cmp_eq, xlk, q_xs1, q_xs2, lv_args, Value.category, List.filter_cons, List.filter_nil, Nat.reduceAdd, Nat.reduceBEq, Nat.reduceEqDiff, Nat.reduceSub, Nat.sub_zero, beq_self_eq_true, Bool.not_true, Bool.not_false, Bool.and_true, Bool.and_false, Bool.true_and, Bool.false_and, reduceIte, reduceCtorEq, Bool.false_eq_true, Nat.one_ne_zero, Nat.zero_ne_one, Nat.zero_add, Option.toList_some, Option.toList_none, List.nil_append, List.cons_append, List.take_succ_cons, List.take_zero, List.take_nil, List.drop_succ_cons, List.drop_zero, List.length_cons, List.length_nil, List.reverse_cons, List.reverse_nil, List.head?_cons, List.map_cons, List.map_nil, List.sum_cons, List.sum_nil, true_and, and_true, List.getElem?_cons_zero, List.getElem?_cons_succ, Prod.eta, x_iast, x_bald, x_bast, x_last, x_alen, xup_s, xup_a1, xup_1a, xup_uu, nr_i, nr_l, nr_o, nr_a, ft_i, ft_l, ft_o, ft_a, Nat.reduceLT, i_cl0, i_cl1, i_n1, i_m1, List.set_cons_zero, List.set_cons_succ, Nat.reduceLeDiff, Nat.le_refl, Nat.zero_le, Nat.add_zero, x_no, x_ifnull, x_ifnonnull, x_acmp_eq, x_acmp_ne, x_swl, x_tsw, x_castC, true_or, or_true, nr_z, ft_z, nr_z0, nr_z1, ft_z0, ft_z1, nr_on, nr_an, ft_on, ft_an, b_X4_scale_0, s52, lN_l2i]
  exact hQ
theorem fE_s {u : Nat} (h : u < 2 ^ 63) : fE u = u / 2 ^ 52 := by
  unfold fE
  omega
theorem dX4_significand_0 : decode cX4_significand 0 = .ok (.lload_n 0, 1) := by decide +kernel
theorem dX4_significand_1 : decode cX4_significand 1 = .ok (.ldc2_w 19, 3) := by decide +kernel
theorem dX4_significand_4 : decode cX4_significand 4 = .ok (.lcmp, 1) := by decide +kernel
theorem dX4_significand_5 : decode cX4_significand 5 = .ok (.ifCond .gt 7, 3) := by decide +kernel
theorem dX4_significand_8 : decode cX4_significand 8 = .ok (.lload_n 0, 1) := by decide +kernel
theorem dX4_significand_9 : decode cX4_significand 9 = .ok (.goto 12, 3) := by decide +kernel
theorem dX4_significand_12 : decode cX4_significand 12 = .ok (.lload_n 0, 1) := by decide +kernel
theorem dX4_significand_13 : decode cX4_significand 13 = .ok (.ldc2_w 19, 3) := by decide +kernel
theorem dX4_significand_16 : decode cX4_significand 16 = .ok (.land, 1) := by decide +kernel
theorem dX4_significand_17 : decode cX4_significand 17 = .ok (.ldc2_w 21, 3) := by decide +kernel
theorem dX4_significand_20 : decode cX4_significand 20 = .ok (.lor, 1) := by decide +kernel
theorem dX4_significand_21 : decode cX4_significand 21 = .ok (.lreturn, 1) := by decide +kernel
abbrev r_X4_significand : Room := { frames := 0, cells := 0, slots := 0, locals := 0 }
abbrev m_X4_significand : xMd := (cX4_significand, RX4, 2, (some FieldType.long), false, r_X4_significand)
def b_X4_significand_21 (Q : xQ) : xK := x_lret Q
def b_X4_significand_0 (Q : xQ) : xK := x_lload 0 <| x_c (.long 4503599627370495) <| x_lcmp <| x_if_gt (x_lload 0 <| x_c (.long 4503599627370495) <| x_land <| x_c (.long 4503599627370496) <| x_lor <| (b_X4_significand_21 Q)) <| x_lload 0 <| (b_X4_significand_21 Q)
theorem s_X4_significand_21 (G : xG) (l : Launch) (Q : xQ) : xW G l m_X4_significand xX0 (xPm G Q r_X4_significand) 21 (b_X4_significand_21 Q) := xo_lret (pc := 21) rfl dX4_significand_21
theorem s_X4_significand_0 (G : xG) (l : Launch) (Q : xQ) : xW G l m_X4_significand xX0 (xPm G Q r_X4_significand) 0 (b_X4_significand_0 Q) := xo_lload_n (pc := 0) (i := 0) dX4_significand_0 rfl <| xo_ldc2_w (pc := 1) dX4_significand_1 kw483 <| xo_lcmp (pc := 4) dX4_significand_4 <| xo_if_gt (pc := 5) (tgt := 12) dX4_significand_5 (by decide) (xo_lload_n (pc := 12) (i := 0) dX4_significand_12 rfl <| xo_ldc2_w (pc := 13) dX4_significand_13 kw483 <| xo_land (pc := 16) dX4_significand_16 <| xo_ldc2_w (pc := 17) dX4_significand_17 kw488 <| xo_lor (pc := 20) dX4_significand_20 <| (s_X4_significand_21 G l Q)) <| xo_lload_n (pc := 8) (i := 0) dX4_significand_8 rfl <| xo_goto (pc := 9) (tgt := 21) dX4_significand_9 (by decide) <| (s_X4_significand_21 G l Q)

def C_X4_significand : xC := fun av S Q => ∃ u : Nat, av = [.long (lN u)] ∧ u < 2 ^ 63 ∧ Q (some (.long (lN (fP u)))) S
theorem cM_X4_significand (G : xG) (l : Launch) : xM G l yX4_significand cX4_significand 2 (some FieldType.long) r_X4_significand C_X4_significand := by
  refine xM_of (fun Q => b_X4_significand_0 Q) RX4 false (s_X4_significand_0 G l) (by decide) rfl (by decide) ?_
  rintro av S Q ⟨u, rfl, hu, hQ⟩
  refine ⟨Nat.le_of_ble_eq_true rfl, ?_⟩
  have e1 : (4503599627370495 : Int64) < lN u ↔ 4503599627370495 < u := pk_lLT (a := 4503599627370495) (by decide) (by omega)
  have es := fE_s hu
  unfold fP at hQ
  simp only [q_c, x_iload, x_lload, x_aload, q_istore, q_lstore, q_astore, q_astore2, x_iinc, q_iadd, q_isub, q_imul, q_iand, q_ior, q_ixor, q_ladd, q_lsub, q_lmul, q_land, q_lor, q_lxor, q_idiv, q_irem, q_ldiv, q_lrem, q_ineg, q_lneg, q_ishl, q_ishr, q_iushr, q_lshl, q_lshr, q_lushr, q_i2l, q_l2i, q_i2b, q_i2c, q_lcmp, q_if_eq, q_if_ne, q_if_lt, q_if_ge, q_if_gt, q_if_le, q_icmp_eq, q_icmp_ne, q_icmp_lt, q_icmp_ge, q_icmp_gt, q_icmp_le, q_dup, q_pop, q_dup_x1, q_dup2, x_iret, x_zret, x_lret, x_aret, x_vret, x_call, x_callv, x_calli, x_oinit, x_mmax, x_mmin, x_mabs, x_mmaxL, x_mminL, x_mabsL, lg_cmp_ge, lg_cmp_le, lg_cmp_gt, lg_cmp_lt, lg_cmp_eq, xlk, q_xs1, q_xs2, lv_args, Value.category, List.filter_cons, List.filter_nil, Nat.reduceAdd, Nat.reduceBEq, Nat.reduceEqDiff, Nat.reduceSub, Nat.sub_zero, beq_self_eq_true, Bool.not_true, Bool.not_false, Bool.and_true, Bool.and_false, Bool.true_and, Bool.false_and, reduceIte, reduceCtorEq, Bool.false_eq_true, Nat.one_ne_zero, Nat.zero_ne_one, Nat.zero_add, Option.toList_some, Option.toList_none, List.nil_append, List.cons_append, List.take_succ_cons, List.take_zero, List.take_nil, List.drop_succ_cons, List.drop_zero, List.length_cons, List.length_nil, List.reverse_cons, List.reverse_nil, List.head?_cons, List.map_cons, List.map_nil, List.sum_cons, List.sum_nil, true_and, and_true, List.getElem?_cons_zero, List.getElem?_cons_succ, Prod.eta, x_iast, x_bald, x_bast, x_last, x_alen, xup_s, xup_a1, xup_1a, xup_uu, nr_i, nr_l, nr_o, nr_a, ft_i, ft_l, ft_o, ft_a, Nat.reduceLT, i_cl0, i_cl1, i_n1, i_m1, List.set_cons_zero, List.set_cons_succ, Nat.reduceLeDiff, Nat.le_refl, Nat.zero_le, Nat.add_zero, x_no, x_ifnull, x_ifnonnull, x_acmp_eq, x_acmp_ne, x_swl, x_tsw, x_castC, true_or, or_true, nr_z, ft_z, nr_z0, nr_z1, ft_z0, ft_z1, nr_on, nr_an, ft_on, ft_an, b_X4_significand_0, b_X4_significand_21, e1, l_F (show u < 2 ^ 64 by omega), l_oF]
  refine ⟨fun z => ?_, fun z => ?_⟩
  · rw [if_neg (by omega)] at hQ
    rw [Nat.one_mul]
    exact hQ
  · rw [if_pos (by omega), show fF u = u by unfold fF; omega] at hQ
    exact hQ
theorem dX4_exponent_0 : decode cX4_exponent 0 = .ok (.lload_n 0, 1) := by decide +kernel
theorem dX4_exponent_1 : decode cX4_exponent 1 = .ok (.ldc2_w 19, 3) := by decide +kernel
theorem dX4_exponent_4 : decode cX4_exponent 4 = .ok (.lcmp, 1) := by decide +kernel
theorem dX4_exponent_5 : decode cX4_exponent 5 = .ok (.ifCond .gt 9, 3) := by decide +kernel
theorem dX4_exponent_8 : decode cX4_exponent 8 = .ok (.sipush (-1074), 3) := by decide +kernel
theorem dX4_exponent_11 : decode cX4_exponent 11 = .ok (.goto 12, 3) := by decide +kernel
theorem dX4_exponent_14 : decode cX4_exponent 14 = .ok (.lload_n 0, 1) := by decide +kernel
theorem dX4_exponent_15 : decode cX4_exponent 15 = .ok (.bipush 52, 2) := by decide +kernel
theorem dX4_exponent_17 : decode cX4_exponent 17 = .ok (.lushr, 1) := by decide +kernel
theorem dX4_exponent_18 : decode cX4_exponent 18 = .ok (.l2i, 1) := by decide +kernel
theorem dX4_exponent_19 : decode cX4_exponent 19 = .ok (.sipush 1075, 3) := by decide +kernel
theorem dX4_exponent_22 : decode cX4_exponent 22 = .ok (.isub, 1) := by decide +kernel
theorem dX4_exponent_23 : decode cX4_exponent 23 = .ok (.ireturn, 1) := by decide +kernel
abbrev r_X4_exponent : Room := { frames := 0, cells := 0, slots := 0, locals := 0 }
abbrev m_X4_exponent : xMd := (cX4_exponent, RX4, 2, (some FieldType.int), false, r_X4_exponent)
def b_X4_exponent_23 (Q : xQ) : xK := x_iret Q
def b_X4_exponent_0 (Q : xQ) : xK := x_lload 0 <| x_c (.long 4503599627370495) <| x_lcmp <| x_if_gt (x_lload 0 <| x_c (.int 52) <| x_lushr <| x_l2i <| x_c (.int 1075) <| x_isub <| (b_X4_exponent_23 Q)) <| x_c (.int (-1074)) <| (b_X4_exponent_23 Q)
theorem s_X4_exponent_23 (G : xG) (l : Launch) (Q : xQ) : xW G l m_X4_exponent xX0 (xPm G Q r_X4_exponent) 23 (b_X4_exponent_23 Q) := xo_iret (pc := 23) rfl dX4_exponent_23
theorem s_X4_exponent_0 (G : xG) (l : Launch) (Q : xQ) : xW G l m_X4_exponent xX0 (xPm G Q r_X4_exponent) 0 (b_X4_exponent_0 Q) := xo_lload_n (pc := 0) (i := 0) dX4_exponent_0 rfl <| xo_ldc2_w (pc := 1) dX4_exponent_1 kw483 <| xo_lcmp (pc := 4) dX4_exponent_4 <| xo_if_gt (pc := 5) (tgt := 14) dX4_exponent_5 (by decide) (xo_lload_n (pc := 14) (i := 0) dX4_exponent_14 rfl <| xo_bipush (pc := 15) dX4_exponent_15 (by decide) <| xo_lushr (pc := 17) dX4_exponent_17 <| xo_l2i (pc := 18) dX4_exponent_18 <| xo_sipush (pc := 19) dX4_exponent_19 (by decide) <| xo_isub (pc := 22) dX4_exponent_22 <| (s_X4_exponent_23 G l Q)) <| xo_sipush (pc := 8) dX4_exponent_8 (by decide) <| xo_goto (pc := 11) (tgt := 23) dX4_exponent_11 (by decide) <| (s_X4_exponent_23 G l Q)

def C_X4_exponent : xC := fun av S Q => ∃ u : Nat, av = [.long (lN u)] ∧ u < 2 ^ 63 ∧ Q (some (.int (iZ (fX u)))) S
theorem cM_X4_exponent (G : xG) (l : Launch) : xM G l yX4_exponent cX4_exponent 2 (some FieldType.int) r_X4_exponent C_X4_exponent := by
  refine xM_of (fun Q => b_X4_exponent_0 Q) RX4 false (s_X4_exponent_0 G l) (by decide) rfl (by decide) ?_
  rintro av S Q ⟨u, rfl, hu, hQ⟩
  refine ⟨Nat.le_of_ble_eq_true rfl, ?_⟩
  have e1 : (4503599627370495 : Int64) < lN u ↔ 4503599627370495 < u := pk_lLT (a := 4503599627370495) (by decide) (by omega)
  have s52 : ((lN u).toUInt64 >>> ((52 : Int32).toInt64.toUInt64 &&& Int64.toUInt64 63)).toInt64 = lN (u / 2 ^ 52) := wb_shr (k := 52) (by omega) (by decide)
  have es := fE_s hu
  have e2 : nI (u / 2 ^ 52) - 1075 = iZ ((u / 2 ^ 52 : Nat) - 1075 : Int) := by
    rw [← iZ_nat]
    exact iZ_sub _ 1075
  unfold fX at hQ
  simp only [q_c, x_iload, x_lload, x_aload, q_istore, q_lstore, q_astore, q_astore2, x_iinc, q_iadd, q_isub, q_imul, q_iand, q_ior, q_ixor, q_ladd, q_lsub, q_lmul, q_land, q_lor, q_lxor, q_idiv, q_irem, q_ldiv, q_lrem, q_ineg, q_lneg, q_ishl, q_ishr, q_iushr, q_lshl, q_lshr, q_lushr, q_i2l, q_l2i, q_i2b, q_i2c, q_lcmp, q_if_eq, q_if_ne, q_if_lt, q_if_ge, q_if_gt, q_if_le, q_icmp_eq, q_icmp_ne, q_icmp_lt, q_icmp_ge, q_icmp_gt, q_icmp_le, q_dup, q_pop, q_dup_x1, q_dup2, x_iret, x_zret, x_lret, x_aret, x_vret, x_call, x_callv, x_calli, x_oinit, x_mmax, x_mmin, x_mabs, x_mmaxL, x_mminL, x_mabsL, lg_cmp_ge, lg_cmp_le, lg_cmp_gt, lg_cmp_lt, lg_cmp_eq, xlk, q_xs1, q_xs2, lv_args, Value.category, List.filter_cons, List.filter_nil, Nat.reduceAdd, Nat.reduceBEq, Nat.reduceEqDiff, Nat.reduceSub, Nat.sub_zero, beq_self_eq_true, Bool.not_true, Bool.not_false, Bool.and_true, Bool.and_false, Bool.true_and, Bool.false_and, reduceIte, reduceCtorEq, Bool.false_eq_true, Nat.one_ne_zero, Nat.zero_ne_one, Nat.zero_add, Option.toList_some, Option.toList_none, List.nil_append, List.cons_append, List.take_succ_cons, List.take_zero, List.take_nil, List.drop_succ_cons, List.drop_zero, List.length_cons, List.length_nil, List.reverse_cons, List.reverse_nil, List.head?_cons, List.map_cons, List.map_nil, List.sum_cons, List.sum_nil, true_and, and_true, List.getElem?_cons_zero, List.getElem?_cons_succ, Prod.eta, x_iast, x_bald, x_bast, x_last, x_alen, xup_s, xup_a1, xup_1a, xup_uu, nr_i, nr_l, nr_o, nr_a, ft_i, ft_l, ft_o, ft_a, Nat.reduceLT, i_cl0, i_cl1, i_n1, i_m1, List.set_cons_zero, List.set_cons_succ, Nat.reduceLeDiff, Nat.le_refl, Nat.zero_le, Nat.add_zero, x_no, x_ifnull, x_ifnonnull, x_acmp_eq, x_acmp_ne, x_swl, x_tsw, x_castC, true_or, or_true, nr_z, ft_z, nr_z0, nr_z1, ft_z0, ft_z1, nr_on, nr_an, ft_on, ft_an, b_X4_exponent_0, b_X4_exponent_23, e1, s52, lN_l2i, e2]
  refine ⟨fun z => ?_, fun z => ?_⟩
  · rw [if_neg (by omega), es] at hQ
    exact hQ
  · rw [if_pos (by omega)] at hQ
    exact hQ
