/-! a literal's cell; whether a cell is astray -/
theorem reL_X {h : xH} {o : Nat} {a : rL} (w : reL h o a) (r : rLw a) (k : kdL a) : reX h o false (vL a) := by
  obtain ⟨k1, k2⟩ := kd_6 k
  exact ⟨_, _, _, _, _, w, ⟨r.2.1, fun _ s0 => ⟨r.2.2.1 s0, r.2.2.2, fun _ => ⟨k1, k2⟩, fun y => absurd y (by decide)⟩⟩, k1, k2, r.2.2.2, rfl⟩
theorem rdR_m {t : Nat → Nat} {n : Nat} {ok op em : Bool} {p' m : Nat} {a b : rL} (h : rdR t n ok op em p' m a b) : m ≤ 4 := by
  obtain ⟨o1, p1, p2, -, hm, -⟩ := h
  rcases hm with ⟨-, y | y, -⟩ | ⟨-, y, -⟩ <;> omega
theorem rdB_ok {n : Nat} {ok op em : Bool} {p' m : Nat} {a b : rL} (h : rdB n ok op em p' m a b = true) : ok = true := by
  unfold rdB at h
  rw [Bool.and_eq_true, Bool.and_eq_true] at h
  exact h.1.1
theorem rd_od {t : Nat → Nat} {n : Nat} (hn : n ≤ 400) : ∀ ok op em p' m a b, rdR t n ok op em p' m a b → ok = true → em = false → odP a b := fun ok op em p' m a b w e1 e2 => by
  subst e1
  obtain ⟨⟨a1, a2⟩, b1, b2⟩ := rd_w w hn e2
  exact od_P a1 b1 a2 b2
theorem clL_b (em : Bool) (a : rL) : oF (if em = true then 9218868437227405312 else dnX (vL a)) := by
  have := dnX_b (vL a)
  split
  · exact ⟨by decide, by decide⟩
  · exact ⟨by omega, by omega⟩
theorem clH_b (em : Bool) (a : rL) : oF (if em = true then -9218868437227405312 else upX (vL a)) := by
  have := upX_b (vL a)
  split
  · exact ⟨by decide, by decide⟩
  · exact ⟨by omega, by omega⟩
theorem dX11_readCell_0 : decode cX11_readCell 0 = .ok (.new 102, 3) := by decide +kernel
theorem dX11_readCell_3 : decode cX11_readCell 3 = .ok (.dup, 1) := by decide +kernel
theorem dX11_readCell_4 : decode cX11_readCell 4 = .ok (.invokespecial 104, 3) := by decide +kernel
theorem dX11_readCell_7 : decode cX11_readCell 7 = .ok (.astore_n 2, 1) := by decide +kernel
theorem dX11_readCell_8 : decode cX11_readCell 8 = .ok (.aload_n 0, 1) := by decide +kernel
theorem dX11_readCell_9 : decode cX11_readCell 9 = .ok (.getfield 55, 3) := by decide +kernel
theorem dX11_readCell_12 : decode cX11_readCell 12 = .ok (.aload_n 1, 1) := by decide +kernel
theorem dX11_readCell_13 : decode cX11_readCell 13 = .ok (.invokevirtual 216, 3) := by decide +kernel
theorem dX11_readCell_16 : decode cX11_readCell 16 = .ok (.ifCond .ne 5, 3) := by decide +kernel
theorem dX11_readCell_19 : decode cX11_readCell 19 = .ok (.aload_n 2, 1) := by decide +kernel
theorem dX11_readCell_20 : decode cX11_readCell 20 = .ok (.areturn, 1) := by decide +kernel
theorem dX11_readCell_21 : decode cX11_readCell 21 = .ok (.aload_n 2, 1) := by decide +kernel
theorem dX11_readCell_22 : decode cX11_readCell 22 = .ok (.iconst 5, 1) := by decide +kernel
theorem dX11_readCell_23 : decode cX11_readCell 23 = .ok (.putfield 161, 3) := by decide +kernel
theorem dX11_readCell_26 : decode cX11_readCell 26 = .ok (.aload_n 2, 1) := by decide +kernel
theorem dX11_readCell_27 : decode cX11_readCell 27 = .ok (.aload_n 1, 1) := by decide +kernel
theorem dX11_readCell_28 : decode cX11_readCell 28 = .ok (.putfield 220, 3) := by decide +kernel
theorem dX11_readCell_31 : decode cX11_readCell 31 = .ok (.aload_n 0, 1) := by decide +kernel
theorem dX11_readCell_32 : decode cX11_readCell 32 = .ok (.aload_n 2, 1) := by decide +kernel
theorem dX11_readCell_33 : decode cX11_readCell 33 = .ok (.invokevirtual 223, 3) := by decide +kernel
theorem dX11_readCell_36 : decode cX11_readCell 36 = .ok (.aload_n 2, 1) := by decide +kernel
theorem dX11_readCell_37 : decode cX11_readCell 37 = .ok (.aload_n 0, 1) := by decide +kernel
theorem dX11_readCell_38 : decode cX11_readCell 38 = .ok (.getfield 55, 3) := by decide +kernel
theorem dX11_readCell_41 : decode cX11_readCell 41 = .ok (.getfield 227, 3) := by decide +kernel
theorem dX11_readCell_44 : decode cX11_readCell 44 = .ok (.ifCond .ne 7, 3) := by decide +kernel
theorem dX11_readCell_47 : decode cX11_readCell 47 = .ok (.iconst 4, 1) := by decide +kernel
theorem dX11_readCell_48 : decode cX11_readCell 48 = .ok (.goto 10, 3) := by decide +kernel
theorem dX11_readCell_51 : decode cX11_readCell 51 = .ok (.aload_n 0, 1) := by decide +kernel
theorem dX11_readCell_52 : decode cX11_readCell 52 = .ok (.getfield 55, 3) := by decide +kernel
theorem dX11_readCell_55 : decode cX11_readCell 55 = .ok (.getfield 227, 3) := by decide +kernel
theorem dX11_readCell_58 : decode cX11_readCell 58 = .ok (.aload_n 2, 1) := by decide +kernel
theorem dX11_readCell_59 : decode cX11_readCell 59 = .ok (.invokevirtual 123, 3) := by decide +kernel
theorem dX11_readCell_62 : decode cX11_readCell 62 = .ok (.invokestatic 144, 3) := by decide +kernel
theorem dX11_readCell_65 : decode cX11_readCell 65 = .ok (.putfield 127, 3) := by decide +kernel
theorem dX11_readCell_68 : decode cX11_readCell 68 = .ok (.aload_n 2, 1) := by decide +kernel
theorem dX11_readCell_69 : decode cX11_readCell 69 = .ok (.areturn, 1) := by decide +kernel
abbrev r_X11_readCell : Room := { frames := 8, cells := 1, slots := 9, locals := 177 }
abbrev m_X11_readCell : xMd := (cX11_readCell, RX11, 3, (some (FieldType.object "IntervalTape$Cell")), false, r_X11_readCell)
def b_X11_readCell_58 (Q : xQ) : xK := x_aload 2 <| x_callv 2 C_X1_strongest 1 0 0 <| x_mmin <| x_put 2 2 .int <| x_aload 2 <| x_aret Q
def b_X11_readCell_0 (Q : xQ) : xK := x_new 2 9 [.long 0, .long 0, .int 0, .int 0, .int 0, .null, .null, .null, .null] <| x_dup <| x_calli C_X1_init 1 0 0 <| x_astore 2 <| x_aload 0 <| x_get 10 6 <| x_aload 1 <| x_callv 6 C_X7_read 2 0 0 <| x_if_ne (x_aload 2 <| x_c (.int 5) <| x_put 2 3 .int <| x_aload 2 <| x_aload 1 <| x_put 2 8 (.array .byte) <| x_aload 0 <| x_aload 2 <| x_callv 10 C_X11_round 2 0 0 <| x_aload 2 <| x_aload 0 <| x_get 10 6 <| x_get 6 4 <| x_if_ne (x_aload 0 <| x_get 10 6 <| x_get 6 4 <| (b_X11_readCell_58 Q)) <| x_c (.int 4) <| (b_X11_readCell_58 Q)) <| x_aload 2 <| x_aret Q
theorem s_X11_readCell_58 (G : xG) (l : Launch) (Q : xQ) : xW G l m_X11_readCell xX0 (xPm G Q r_X11_readCell) 58 (b_X11_readCell_58 Q) := xo_aload_n (pc := 58) (i := 2) dX11_readCell_58 rfl <| xo_callV (pc := 59) (np := 0) (ci := 2) rfl (cM_X1_strongest G l) dX11_readCell_59 kw703 kw700 kw701 kw702 kw19 (by decide +kernel) (by decide) <| xo_mmin (pc := 62) dX11_readCell_62 kw714 kw331 kw17 kw332 (by decide) <| xo_putN (pc := 65) (ci := 2) (i := 2) rfl ok2 (by decide) rfl rfl dX11_readCell_65 kw362 <| xo_aload_n (pc := 68) (i := 2) dX11_readCell_68 rfl <| xo_aret (pc := 69) rfl (by first | exact Or.inl ⟨_, rfl⟩ | exact Or.inr ⟨_, rfl⟩) dX11_readCell_69
theorem s_X11_readCell_0 (G : xG) (l : Launch) (Q : xQ) : xW G l m_X11_readCell xX0 (xPm G Q r_X11_readCell) 0 (b_X11_readCell_0 Q) := xo_new (pc := 0) (ci := 2) rfl ok2 (by decide) dX11_readCell_0 kw340 kw341 kw19 <| xo_dup (pc := 3) dX11_readCell_3 <| xo_callIN (pc := 4) (np := 0) (cM_X1_init G l) dX11_readCell_4 kw344 kw342 kw343 kw19 rfl (by decide +kernel) (by decide) <| xo_astore_n (pc := 7) (i := 2) dX11_readCell_7 rfl (by decide) <| xo_aload_n (pc := 8) (i := 0) dX11_readCell_8 rfl <| xo_get (pc := 9) (ci := 10) (i := 6) rfl ok10 (by decide) dX11_readCell_9 kw265 <| xo_aload_n (pc := 12) (i := 1) dX11_readCell_12 rfl <| xo_callV (pc := 13) (np := 1) (ci := 6) rfl (cM_X7_read G l) dX11_readCell_13 kw402 kw399 kw400 kw401 kw11 (by decide +kernel) (by decide) <| xo_if_ne (pc := 16) (tgt := 21) dX11_readCell_16 (by decide) (xo_aload_n (pc := 21) (i := 2) dX11_readCell_21 rfl <| xo_iconst (pc := 22) dX11_readCell_22 (by decide) <| xo_putN (pc := 23) (ci := 2) (i := 3) rfl ok2 (by decide) rfl rfl dX11_readCell_23 kw366 <| xo_aload_n (pc := 26) (i := 2) dX11_readCell_26 rfl <| xo_aload_n (pc := 27) (i := 1) dX11_readCell_27 rfl <| xo_putN (pc := 28) (ci := 2) (i := 8) rfl ok2 (by decide) rfl rfl dX11_readCell_28 kw379 <| xo_aload_n (pc := 31) (i := 0) dX11_readCell_31 rfl <| xo_aload_n (pc := 32) (i := 2) dX11_readCell_32 rfl <| xo_callV (pc := 33) (np := 1) (ci := 10) rfl (cM_X11_round G l) dX11_readCell_33 kw638 kw635 kw637 ks19 kw1 (by decide +kernel) (by decide) <| xo_aload_n (pc := 36) (i := 2) dX11_readCell_36 rfl <| xo_aload_n (pc := 37) (i := 0) dX11_readCell_37 rfl <| xo_get (pc := 38) (ci := 10) (i := 6) rfl ok10 (by decide) dX11_readCell_38 kw265 <| xo_getN (pc := 41) (ci := 6) (i := 4) rfl ok6 (by decide) dX11_readCell_41 kw219 <| xo_if_ne (pc := 44) (tgt := 51) dX11_readCell_44 (by decide) (xo_aload_n (pc := 51) (i := 0) dX11_readCell_51 rfl <| xo_get (pc := 52) (ci := 10) (i := 6) rfl ok10 (by decide) dX11_readCell_52 kw265 <| xo_getN (pc := 55) (ci := 6) (i := 4) rfl ok6 (by decide) dX11_readCell_55 kw219 <| (s_X11_readCell_58 G l Q)) <| xo_iconst (pc := 47) dX11_readCell_47 (by decide) <| xo_goto (pc := 48) (tgt := 58) dX11_readCell_48 (by decide) <| (s_X11_readCell_58 G l Q)) <| xo_aload_n (pc := 19) (i := 2) dX11_readCell_19 rfl <| xo_aret (pc := 20) rfl (by first | exact Or.inl ⟨_, rfl⟩ | exact Or.inr ⟨_, rfl⟩) dX11_readCell_20

abbrev ltR (tx : Nat) : List Value := [.int 5, .int 0, .null, .null, .null, .ref tx]
def rcQ (Q : xQ) (h : xH) (sz B tx n : Nat) (t : Nat → Nat) : Prop := ∀ h' em T ok op e' p' m a b, rdR t n ok op e' p' m a b → (∀ q, q ≠ sz → q ≠ tx → (q < B + 3 ∨ B + 3 + 31 ≤ q) → q ≠ B + 3 + 38 → h' q = h q) → enA h' (B + 3) em → rd0 h' (B + 3) → rdT h' tx n t → vcR h' sz (lcC n ok op e' p' m a b) (if rdB n ok op e' p' m a b = true then ltR tx else nwR) → Q (some (.ref sz)) (h', sz + 1, T)
def C_X11_readCell : xC := fun av S Q => ∃ (B ts lk tx n : Nat) (en em : Bool) (t : Nat → Nat), av = [.ref B, .ref tx] ∧ clO S.1 B ts en lk ∧ enA S.1 (B + 3) em ∧ rd0 S.1 (B + 3) ∧ rdT S.1 tx n t ∧ B + 44 ≤ tx ∧ tx < S.2.1 ∧ 1 ≤ S.2.2.1 ∧ 9 ≤ S.2.2.2 ∧ rcQ Q S.1 S.2.1 B tx n (lwT t n)
set_option maxHeartbeats 2000000 in
theorem cM_X11_readCell (G : xG) (l : Launch) : xM G l yX11_readCell cX11_readCell 3 (some (FieldType.object "IntervalTape$Cell")) r_X11_readCell C_X11_readCell := by
  refine xM_of (fun Q => b_X11_readCell_0 Q) RX11 false (s_X11_readCell_0 G l) (by decide) rfl (by decide) ?_
  rintro av ⟨h, sz, cl, sl⟩ Q ⟨B, ts, lk, tx, n, en, em, t, rfl, w, wa, w0, wt, hx, hz, h1, h2, hQ⟩
  dsimp only at *
  refine ⟨Nat.le_of_ble_eq_true rfl, ?_⟩
  unfold b_X11_readCell_0
  have s58 : ∀ (h4 : xH) (T : Nat × Nat) (k : Nat) (lo hi : Int), clR h4 sz lo hi 0 (ltR tx) → oF lo → oF hi → k ≤ 4 → (∀ h5, (∀ q, q ≠ sz → h5 q = h4 q) → clR h5 sz lo hi (min k (sC lo hi)) (ltR tx) → Q (some (.ref sz)) (h5, sz + 1, T)) → b_X11_readCell_58 Q [(2, .ref sz), (0, .ref B), (1, .ref tx)] [.int (nI k), .ref sz] (h4, sz + 1, T) := by
    intro h4 T k lo hi w4 b1 b2 k4 q
    have s4 : sC lo hi ≤ 4 := by
      unfold sC
      split
      · decide
      · split <;> decide
    have n1 := nI_mn (a := k) (b := sC lo hi) (by omega) (by omega)
    unfold b_X11_readCell_58
    try simp only [q_c, x_iload, x_lload, x_aload, q_istore, q_lstore, q_astore, q_astore2, x_iinc, q_iadd, q_isub, q_imul, q_iand, q_ior, q_ixor, q_ladd, q_lsub, q_lmul, q_land, q_lor, q_lxor, q_idiv, q_irem, q_ldiv, q_lrem, q_ineg, q_lneg, q_ishl, q_ishr, q_iushr, q_lshl, q_lshr, q_lushr, q_i2l, q_l2i, q_i2b, q_i2c, q_lcmp, q_if_eq, q_if_ne, q_if_lt, q_if_ge, q_if_gt, q_if_le, q_icmp_eq, q_icmp_ne, q_icmp_lt, q_icmp_ge, q_icmp_gt, q_icmp_le, q_dup, q_pop, q_dup_x1, q_dup2, x_iret, x_zret, x_lret, x_aret, x_vret, x_call, x_callv, x_calli, x_oinit, x_mmax, x_mmin, x_mabs, x_mmaxL, x_mminL, x_mabsL, lg_cmp_ge, lg_cmp_le, lg_cmp_gt, lg_cmp_lt, lg_cmp_eq, xlk, q_xs1, q_xs2, lv_args, Value.category, List.filter_cons, List.filter_nil, Nat.reduceAdd, Nat.reduceBEq, Nat.reduceEqDiff, Nat.reduceSub, Nat.sub_zero, beq_self_eq_true, Bool.not_true, Bool.not_false, Bool.and_true, Bool.and_false, Bool.true_and, Bool.false_and, reduceIte, reduceCtorEq, Bool.false_eq_true, Nat.one_ne_zero, Nat.zero_ne_one, Nat.zero_add, Option.toList_some, Option.toList_none, List.nil_append, List.cons_append, List.take_succ_cons, List.take_zero, List.take_nil, List.drop_succ_cons, List.drop_zero, List.length_cons, List.length_nil, List.reverse_cons, List.reverse_nil, List.head?_cons, List.map_cons, List.map_nil, List.sum_cons, List.sum_nil, true_and, and_true, List.getElem?_cons_zero, List.getElem?_cons_succ, Prod.eta, x_iast, x_bald, x_bast, x_last, x_alen, xup_s, xup_a1, xup_1a, xup_uu, nr_i, nr_l, nr_o, nr_a, ft_i, ft_l, ft_o, ft_a, Nat.reduceLT, i_cl0, i_cl1, i_n1, i_m1, List.set_cons_zero, List.set_cons_succ, Nat.reduceLeDiff, Nat.le_refl, Nat.zero_le, Nat.add_zero, x_no, x_ifnull, x_ifnonnull, x_acmp_eq, x_acmp_ne, x_swl, x_tsw, x_castC, true_or, or_true, nr_z, ft_z, nr_z0, nr_z1, ft_z0, ft_z1, nr_on, nr_an, ft_on, ft_an]
    refine kc_str w4 b1 b2 ?_
    simp only [q_c, x_iload, x_lload, x_aload, q_istore, q_lstore, q_astore, q_astore2, x_iinc, q_iadd, q_isub, q_imul, q_iand, q_ior, q_ixor, q_ladd, q_lsub, q_lmul, q_land, q_lor, q_lxor, q_idiv, q_irem, q_ldiv, q_lrem, q_ineg, q_lneg, q_ishl, q_ishr, q_iushr, q_lshl, q_lshr, q_lushr, q_i2l, q_l2i, q_i2b, q_i2c, q_lcmp, q_if_eq, q_if_ne, q_if_lt, q_if_ge, q_if_gt, q_if_le, q_icmp_eq, q_icmp_ne, q_icmp_lt, q_icmp_ge, q_icmp_gt, q_icmp_le, q_dup, q_pop, q_dup_x1, q_dup2, x_iret, x_zret, x_lret, x_aret, x_vret, x_call, x_callv, x_calli, x_oinit, x_mmax, x_mmin, x_mabs, x_mmaxL, x_mminL, x_mabsL, lg_cmp_ge, lg_cmp_le, lg_cmp_gt, lg_cmp_lt, lg_cmp_eq, xlk, q_xs1, q_xs2, lv_args, Value.category, List.filter_cons, List.filter_nil, Nat.reduceAdd, Nat.reduceBEq, Nat.reduceEqDiff, Nat.reduceSub, Nat.sub_zero, beq_self_eq_true, Bool.not_true, Bool.not_false, Bool.and_true, Bool.and_false, Bool.true_and, Bool.false_and, reduceIte, reduceCtorEq, Bool.false_eq_true, Nat.one_ne_zero, Nat.zero_ne_one, Nat.zero_add, Option.toList_some, Option.toList_none, List.nil_append, List.cons_append, List.take_succ_cons, List.take_zero, List.take_nil, List.drop_succ_cons, List.drop_zero, List.length_cons, List.length_nil, List.reverse_cons, List.reverse_nil, List.head?_cons, List.map_cons, List.map_nil, List.sum_cons, List.sum_nil, true_and, and_true, List.getElem?_cons_zero, List.getElem?_cons_succ, Prod.eta, x_iast, x_bald, x_bast, x_last, x_alen, xup_s, xup_a1, xup_1a, xup_uu, nr_i, nr_l, nr_o, nr_a, ft_i, ft_l, ft_o, ft_a, Nat.reduceLT, i_cl0, i_cl1, i_n1, i_m1, List.set_cons_zero, List.set_cons_succ, Nat.reduceLeDiff, Nat.le_refl, Nat.zero_le, Nat.add_zero, x_no, x_ifnull, x_ifnonnull, x_acmp_eq, x_acmp_ne, x_swl, x_tsw, x_castC, true_or, or_true, nr_z, ft_z, nr_z0, nr_z1, ft_z0, ft_z1, nr_on, nr_an, ft_on, ft_an, n1, x_put, w4.1]
    exact q _ (fun r x => xup_n x) ⟨xup_s, rfl⟩
  generalize b_X11_readCell_58 Q = J at *
  simp only [q_c, x_iload, x_lload, x_aload, q_istore, q_lstore, q_astore, q_astore2, x_iinc, q_iadd, q_isub, q_imul, q_iand, q_ior, q_ixor, q_ladd, q_lsub, q_lmul, q_land, q_lor, q_lxor, q_idiv, q_irem, q_ldiv, q_lrem, q_ineg, q_lneg, q_ishl, q_ishr, q_iushr, q_lshl, q_lshr, q_lushr, q_i2l, q_l2i, q_i2b, q_i2c, q_lcmp, q_if_eq, q_if_ne, q_if_lt, q_if_ge, q_if_gt, q_if_le, q_icmp_eq, q_icmp_ne, q_icmp_lt, q_icmp_ge, q_icmp_gt, q_icmp_le, q_dup, q_pop, q_dup_x1, q_dup2, x_iret, x_zret, x_lret, x_aret, x_vret, x_call, x_callv, x_calli, x_oinit, x_mmax, x_mmin, x_mabs, x_mmaxL, x_mminL, x_mabsL, lg_cmp_ge, lg_cmp_le, lg_cmp_gt, lg_cmp_lt, lg_cmp_eq, xlk, q_xs1, q_xs2, lv_args, Value.category, List.filter_cons, List.filter_nil, Nat.reduceAdd, Nat.reduceBEq, Nat.reduceEqDiff, Nat.reduceSub, Nat.sub_zero, beq_self_eq_true, Bool.not_true, Bool.not_false, Bool.and_true, Bool.and_false, Bool.true_and, Bool.false_and, reduceIte, reduceCtorEq, Bool.false_eq_true, Nat.one_ne_zero, Nat.zero_ne_one, Nat.zero_add, Option.toList_some, Option.toList_none, List.nil_append, List.cons_append, List.take_succ_cons, List.take_zero, List.take_nil, List.drop_succ_cons, List.drop_zero, List.length_cons, List.length_nil, List.reverse_cons, List.reverse_nil, List.head?_cons, List.map_cons, List.map_nil, List.sum_cons, List.sum_nil, true_and, and_true, List.getElem?_cons_zero, List.getElem?_cons_succ, Prod.eta, x_iast, x_bald, x_bast, x_last, x_alen, xup_s, xup_a1, xup_1a, xup_uu, nr_i, nr_l, nr_o, nr_a, ft_i, ft_l, ft_o, ft_a, Nat.reduceLT, i_cl0, i_cl1, i_n1, i_m1, List.set_cons_zero, List.set_cons_succ, Nat.reduceLeDiff, Nat.le_refl, Nat.zero_le, Nat.add_zero, x_no, x_ifnull, x_ifnonnull, x_acmp_eq, x_acmp_ne, x_swl, x_tsw, x_castC, true_or, or_true, nr_z, ft_z, nr_z0, nr_z1, ft_z0, ft_z1, nr_on, nr_an, ft_on, ft_an, x_new]
  refine ⟨h1, h2, ⟨_, rfl⟩, sz, rfl, ?_⟩
  have wB : ∀ c, xup h sz c B = some (clC10 B (nI ts) en lk) := fun c => (xup_n (by omega)).trans w
  have of : ∀ c, xoff (xup h sz c) h sz (sz + 1) := fun c => off1
  obtain ⟨T0, p0, g0, bh0, fi0, op0, w0⟩ := w0
  simp only [q_c, x_iload, x_lload, x_aload, q_istore, q_lstore, q_astore, q_astore2, x_iinc, q_iadd, q_isub, q_imul, q_iand, q_ior, q_ixor, q_ladd, q_lsub, q_lmul, q_land, q_lor, q_lxor, q_idiv, q_irem, q_ldiv, q_lrem, q_ineg, q_lneg, q_ishl, q_ishr, q_iushr, q_lshl, q_lshr, q_lushr, q_i2l, q_l2i, q_i2b, q_i2c, q_lcmp, q_if_eq, q_if_ne, q_if_lt, q_if_ge, q_if_gt, q_if_le, q_icmp_eq, q_icmp_ne, q_icmp_lt, q_icmp_ge, q_icmp_gt, q_icmp_le, q_dup, q_pop, q_dup_x1, q_dup2, x_iret, x_zret, x_lret, x_aret, x_vret, x_call, x_callv, x_calli, x_oinit, x_mmax, x_mmin, x_mabs, x_mmaxL, x_mminL, x_mabsL, lg_cmp_ge, lg_cmp_le, lg_cmp_gt, lg_cmp_lt, lg_cmp_eq, xlk, q_xs1, q_xs2, lv_args, Value.category, List.filter_cons, List.filter_nil, Nat.reduceAdd, Nat.reduceBEq, Nat.reduceEqDiff, Nat.reduceSub, Nat.sub_zero, beq_self_eq_true, Bool.not_true, Bool.not_false, Bool.and_true, Bool.and_false, Bool.true_and, Bool.false_and, reduceIte, reduceCtorEq, Bool.false_eq_true, Nat.one_ne_zero, Nat.zero_ne_one, Nat.zero_add, Option.toList_some, Option.toList_none, List.nil_append, List.cons_append, List.take_succ_cons, List.take_zero, List.take_nil, List.drop_succ_cons, List.drop_zero, List.length_cons, List.length_nil, List.reverse_cons, List.reverse_nil, List.head?_cons, List.map_cons, List.map_nil, List.sum_cons, List.sum_nil, true_and, and_true, List.getElem?_cons_zero, List.getElem?_cons_succ, Prod.eta, x_iast, x_bald, x_bast, x_last, x_alen, xup_s, xup_a1, xup_1a, xup_uu, nr_i, nr_l, nr_o, nr_a, ft_i, ft_l, ft_o, ft_a, Nat.reduceLT, i_cl0, i_cl1, i_n1, i_m1, List.set_cons_zero, List.set_cons_succ, Nat.reduceLeDiff, Nat.le_refl, Nat.zero_le, Nat.add_zero, x_no, x_ifnull, x_ifnonnull, x_acmp_eq, x_acmp_ne, x_swl, x_tsw, x_castC, true_or, or_true, nr_z, ft_z, nr_z0, nr_z1, ft_z0, ft_z1, nr_on, nr_an, ft_on, ft_an, x_get, wB]
  have w0' : ∀ c, xup h sz c (B + 3 + 38) = _ := fun c => (xup_n (by omega)).trans w0
  refine ⟨⟨_, _, rfl, w0' _⟩, B + 3, tx, n, t, em, rfl, by omega, ⟨T0, p0, g0, bh0, fi0, op0, w0' _⟩, ⟨(xup_n (by omega)).trans wt.1, wt.2⟩, wa.off (of _) (by omega), rd_od wt.2.1, fun ok op e' p' m a b bh hr h' ff wr we wx => ?_⟩
  dsimp only at ff
  have w' : h' B = some (clC10 B (nI ts) en lk) := (ff B (by omega) (by omega) (by omega)).trans (wB _)
  have ws : h' sz = _ := (ff sz (by omega) (by omega) (by omega)).trans xup_s
  have fr : ∀ q, q ≠ sz → q ≠ tx → (q < B + 3 ∨ B + 3 + 31 ≤ q) → q ≠ B + 3 + 38 → h' q = h q := fun q c1 c2 c3 c4 => (ff q c4 c2 (by omega)).trans (xup_n c1)
  have m4 := rdR_m hr
  simp only [q_c, x_iload, x_lload, x_aload, q_istore, q_lstore, q_astore, q_astore2, x_iinc, q_iadd, q_isub, q_imul, q_iand, q_ior, q_ixor, q_ladd, q_lsub, q_lmul, q_land, q_lor, q_lxor, q_idiv, q_irem, q_ldiv, q_lrem, q_ineg, q_lneg, q_ishl, q_ishr, q_iushr, q_lshl, q_lshr, q_lushr, q_i2l, q_l2i, q_i2b, q_i2c, q_lcmp, q_if_eq, q_if_ne, q_if_lt, q_if_ge, q_if_gt, q_if_le, q_icmp_eq, q_icmp_ne, q_icmp_lt, q_icmp_ge, q_icmp_gt, q_icmp_le, q_dup, q_pop, q_dup_x1, q_dup2, x_iret, x_zret, x_lret, x_aret, x_vret, x_call, x_callv, x_calli, x_oinit, x_mmax, x_mmin, x_mabs, x_mmaxL, x_mminL, x_mabsL, lg_cmp_ge, lg_cmp_le, lg_cmp_gt, lg_cmp_lt, lg_cmp_eq, xlk, q_xs1, q_xs2, lv_args, Value.category, List.filter_cons, List.filter_nil, Nat.reduceAdd, Nat.reduceBEq, Nat.reduceEqDiff, Nat.reduceSub, Nat.sub_zero, beq_self_eq_true, Bool.not_true, Bool.not_false, Bool.and_true, Bool.and_false, Bool.true_and, Bool.false_and, reduceIte, reduceCtorEq, Bool.false_eq_true, Nat.one_ne_zero, Nat.zero_ne_one, Nat.zero_add, Option.toList_some, Option.toList_none, List.nil_append, List.cons_append, List.take_succ_cons, List.take_zero, List.take_nil, List.drop_succ_cons, List.drop_zero, List.length_cons, List.length_nil, List.reverse_cons, List.reverse_nil, List.head?_cons, List.map_cons, List.map_nil, List.sum_cons, List.sum_nil, true_and, and_true, List.getElem?_cons_zero, List.getElem?_cons_succ, Prod.eta, x_iast, x_bald, x_bast, x_last, x_alen, xup_s, xup_a1, xup_1a, xup_uu, nr_i, nr_l, nr_o, nr_a, ft_i, ft_l, ft_o, ft_a, Nat.reduceLT, i_cl0, i_cl1, i_n1, i_m1, List.set_cons_zero, List.set_cons_succ, Nat.reduceLeDiff, Nat.le_refl, Nat.zero_le, Nat.add_zero, x_no, x_ifnull, x_ifnonnull, x_acmp_eq, x_acmp_ne, x_swl, x_tsw, x_castC, true_or, or_true, nr_z, ft_z, nr_z0, nr_z1, ft_z0, ft_z1, nr_on, nr_an, ft_on, ft_an, bI_e0]
  refine ⟨fun y => ?_, fun y => ?_⟩
  · have yt : rdB n ok op e' p' m a b = true := by
      first | exact eq_true_of_ne_false y | exact y
    have hk := rdB_ok yt
    subst hk
    have wx' : e' = false → reX h' (B + 3 + 11) false (vL a) ∧ reX h' (B + 3 + 16) false (vL b) := fun y => by
      obtain ⟨⟨a1, a2⟩, b1, b2⟩ := rd_w hr wt.2.1 y
      exact ⟨reL_X (wx y).1 a1 a2, reL_X (wx y).2 b1 b2⟩
    simp only [q_c, x_iload, x_lload, x_aload, q_istore, q_lstore, q_astore, q_astore2, x_iinc, q_iadd, q_isub, q_imul, q_iand, q_ior, q_ixor, q_ladd, q_lsub, q_lmul, q_land, q_lor, q_lxor, q_idiv, q_irem, q_ldiv, q_lrem, q_ineg, q_lneg, q_ishl, q_ishr, q_iushr, q_lshl, q_lshr, q_lushr, q_i2l, q_l2i, q_i2b, q_i2c, q_lcmp, q_if_eq, q_if_ne, q_if_lt, q_if_ge, q_if_gt, q_if_le, q_icmp_eq, q_icmp_ne, q_icmp_lt, q_icmp_ge, q_icmp_gt, q_icmp_le, q_dup, q_pop, q_dup_x1, q_dup2, x_iret, x_zret, x_lret, x_aret, x_vret, x_call, x_callv, x_calli, x_oinit, x_mmax, x_mmin, x_mabs, x_mmaxL, x_mminL, x_mabsL, lg_cmp_ge, lg_cmp_le, lg_cmp_gt, lg_cmp_lt, lg_cmp_eq, xlk, q_xs1, q_xs2, lv_args, Value.category, List.filter_cons, List.filter_nil, Nat.reduceAdd, Nat.reduceBEq, Nat.reduceEqDiff, Nat.reduceSub, Nat.sub_zero, beq_self_eq_true, Bool.not_true, Bool.not_false, Bool.and_true, Bool.and_false, Bool.true_and, Bool.false_and, reduceIte, reduceCtorEq, Bool.false_eq_true, Nat.one_ne_zero, Nat.zero_ne_one, Nat.zero_add, Option.toList_some, Option.toList_none, List.nil_append, List.cons_append, List.take_succ_cons, List.take_zero, List.take_nil, List.drop_succ_cons, List.drop_zero, List.length_cons, List.length_nil, List.reverse_cons, List.reverse_nil, List.head?_cons, List.map_cons, List.map_nil, List.sum_cons, List.sum_nil, true_and, and_true, List.getElem?_cons_zero, List.getElem?_cons_succ, Prod.eta, x_iast, x_bald, x_bast, x_last, x_alen, xup_s, xup_a1, xup_1a, xup_uu, nr_i, nr_l, nr_o, nr_a, ft_i, ft_l, ft_o, ft_a, Nat.reduceLT, i_cl0, i_cl1, i_n1, i_m1, List.set_cons_zero, List.set_cons_succ, Nat.reduceLeDiff, Nat.le_refl, Nat.zero_le, Nat.add_zero, x_no, x_ifnull, x_ifnonnull, x_acmp_eq, x_acmp_ne, x_swl, x_tsw, x_castC, true_or, or_true, nr_z, ft_z, nr_z0, nr_z1, ft_z0, ft_z1, nr_on, nr_an, ft_on, ft_an, x_put, x_get, w', ws, xup_uu, xup_s]
    have ox : ∀ c, xoff (xup h' sz c) h' sz (sz + 1) := fun c => off1
    have w2 : ∀ c, xup h' sz c B = some (clC10 B (nI ts) en lk) := fun c => (xup_n (by omega)).trans w'
    refine ⟨⟨_, _, rfl, w2 _⟩, B, ts, lk, sz, en, e', false, 0, 0, 0, ltR tx, vL a, vL b, rfl, by omega, w2 _, we.off (ox _) (by omega), fun y => ⟨(wx' y).1.off (ox _) (by omega), (wx' y).2.off (ox _) (by omega)⟩, ⟨xup_s, rfl⟩, fun h3 f3 we3 wx3 wc3 => ?_⟩
    dsimp only at f3
    have w3 : h3 B = some (clC10 B (nI ts) en lk) := (f3 B (by omega) (by omega)).trans (w2 _)
    have wr3 : rdO h3 (B + 3) tx p' m bh true op := (f3 _ (by omega) (by omega)).trans ((xup_n (by omega)).trans wr.1)
    have wt3 : rdT h3 tx n (lwT t n) := ⟨(f3 _ (by omega) (by omega)).trans ((xup_n (by omega)).trans wr.2.1.1), wr.2.1.2⟩
    rw [dnT_f, upT_f] at wc3
    have m0 : nI m = 0 ↔ m = 0 := nI_eq (b := 0) (by omega) (by decide)
    have fin : ∀ (T : Nat × Nat), J [(2, .ref sz), (0, .ref B), (1, .ref tx)] [.int (nI (if m = 0 then 4 else m)), .ref sz] (h3, sz + 1, T) := by
      intro T
      refine s58 h3 T _ _ _ wc3 (clL_b _ _) (clH_b _ _) (by split <;> omega) (fun h5 f5 w5 => ?_)
      refine hQ h5 e' T true op e' p' m a b hr (fun q c1 c2 c3 c4 => (f5 q c1).trans ((f3 q c1 (by omega)).trans ((xup_n c1).trans (fr q c1 c2 c3 c4)))) (we3.off (fun q c => f5 q (by omega)) (by omega : B + 3 + 36 ≤ sz ∨ sz + 1 ≤ B + 3)) ⟨.ref tx, p', m, bh, true, op, (f5 _ (by omega)).trans wr3⟩ ⟨(f5 _ (by omega)).trans wt3.1, wt3.2⟩ ?_
      unfold lcC
      rw [if_pos yt, if_pos yt]
      exact w5
    have wr4 : h3 (B + 3 + 38) = some (.inr (6, [.ref (B + 3 + 10), .ref (B + 3), .ref tx, .int (nI p'), .int (nI m), .int (iZ bh), .int (bI true), .int (bI op)])) := wr3
    simp only [q_c, x_iload, x_lload, x_aload, q_istore, q_lstore, q_astore, q_astore2, x_iinc, q_iadd, q_isub, q_imul, q_iand, q_ior, q_ixor, q_ladd, q_lsub, q_lmul, q_land, q_lor, q_lxor, q_idiv, q_irem, q_ldiv, q_lrem, q_ineg, q_lneg, q_ishl, q_ishr, q_iushr, q_lshl, q_lshr, q_lushr, q_i2l, q_l2i, q_i2b, q_i2c, q_lcmp, q_if_eq, q_if_ne, q_if_lt, q_if_ge, q_if_gt, q_if_le, q_icmp_eq, q_icmp_ne, q_icmp_lt, q_icmp_ge, q_icmp_gt, q_icmp_le, q_dup, q_pop, q_dup_x1, q_dup2, x_iret, x_zret, x_lret, x_aret, x_vret, x_call, x_callv, x_calli, x_oinit, x_mmax, x_mmin, x_mabs, x_mmaxL, x_mminL, x_mabsL, lg_cmp_ge, lg_cmp_le, lg_cmp_gt, lg_cmp_lt, lg_cmp_eq, xlk, q_xs1, q_xs2, lv_args, Value.category, List.filter_cons, List.filter_nil, Nat.reduceAdd, Nat.reduceBEq, Nat.reduceEqDiff, Nat.reduceSub, Nat.sub_zero, beq_self_eq_true, Bool.not_true, Bool.not_false, Bool.and_true, Bool.and_false, Bool.true_and, Bool.false_and, reduceIte, reduceCtorEq, Bool.false_eq_true, Nat.one_ne_zero, Nat.zero_ne_one, Nat.zero_add, Option.toList_some, Option.toList_none, List.nil_append, List.cons_append, List.take_succ_cons, List.take_zero, List.take_nil, List.drop_succ_cons, List.drop_zero, List.length_cons, List.length_nil, List.reverse_cons, List.reverse_nil, List.head?_cons, List.map_cons, List.map_nil, List.sum_cons, List.sum_nil, true_and, and_true, List.getElem?_cons_zero, List.getElem?_cons_succ, Prod.eta, x_iast, x_bald, x_bast, x_last, x_alen, xup_s, xup_a1, xup_1a, xup_uu, nr_i, nr_l, nr_o, nr_a, ft_i, ft_l, ft_o, ft_a, Nat.reduceLT, i_cl0, i_cl1, i_n1, i_m1, List.set_cons_zero, List.set_cons_succ, Nat.reduceLeDiff, Nat.le_refl, Nat.zero_le, Nat.add_zero, x_no, x_ifnull, x_ifnonnull, x_acmp_eq, x_acmp_ne, x_swl, x_tsw, x_castC, true_or, or_true, nr_z, ft_z, nr_z0, nr_z1, ft_z0, ft_z1, nr_on, nr_an, ft_on, ft_an, x_get, w3, wr4, m0]
    refine ⟨fun z => ?_, fun z => ?_⟩
    · have := fin
      first
        | (rw [if_neg z] at this; exact this _)
        | (rw [if_pos z] at this; exact this _)
    · have := fin
      first
        | (rw [if_neg z] at this; exact this _)
        | (rw [if_pos (Decidable.not_not.mp z)] at this; exact this _)
        | (rw [if_pos z] at this; exact this _)
  · have yf : rdB n ok op e' p' m a b = false := by
      first | exact Decidable.not_not.mp y | exact eq_false_of_ne_true y | exact y
    refine hQ h' e' _ ok op e' p' m a b hr fr we ⟨.ref tx, p', m, bh, ok, op, wr.1⟩ wr.2.1 ?_
    unfold lcC
    rw [yf, if_neg (by decide), if_neg (by decide)]
    exact ⟨ws, rfl⟩
