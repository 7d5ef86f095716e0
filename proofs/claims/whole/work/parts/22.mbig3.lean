theorem dX12_compare_0 : decode cX12_compare 0 = .ok (.aload_n 0, 1) := by decide +kernel
theorem dX12_compare_1 : decode cX12_compare 1 = .ok (.getfield 13, 3) := by decide +kernel
theorem dX12_compare_4 : decode cX12_compare 4 = .ok (.aload_n 1, 1) := by decide +kernel
theorem dX12_compare_5 : decode cX12_compare 5 = .ok (.getfield 13, 3) := by decide +kernel
theorem dX12_compare_8 : decode cX12_compare 8 = .ok (.if_icmp .eq 20, 3) := by decide +kernel
theorem dX12_compare_11 : decode cX12_compare 11 = .ok (.aload_n 0, 1) := by decide +kernel
theorem dX12_compare_12 : decode cX12_compare 12 = .ok (.getfield 13, 3) := by decide +kernel
theorem dX12_compare_15 : decode cX12_compare 15 = .ok (.aload_n 1, 1) := by decide +kernel
theorem dX12_compare_16 : decode cX12_compare 16 = .ok (.getfield 13, 3) := by decide +kernel
theorem dX12_compare_19 : decode cX12_compare 19 = .ok (.if_icmp .ge 7, 3) := by decide +kernel
theorem dX12_compare_22 : decode cX12_compare 22 = .ok (.iconst (-1), 1) := by decide +kernel
theorem dX12_compare_23 : decode cX12_compare 23 = .ok (.goto 4, 3) := by decide +kernel
theorem dX12_compare_26 : decode cX12_compare 26 = .ok (.iconst 1, 1) := by decide +kernel
theorem dX12_compare_27 : decode cX12_compare 27 = .ok (.ireturn, 1) := by decide +kernel
theorem dX12_compare_28 : decode cX12_compare 28 = .ok (.aload_n 0, 1) := by decide +kernel
theorem dX12_compare_29 : decode cX12_compare 29 = .ok (.getfield 13, 3) := by decide +kernel
theorem dX12_compare_32 : decode cX12_compare 32 = .ok (.iconst 1, 1) := by decide +kernel
theorem dX12_compare_33 : decode cX12_compare 33 = .ok (.isub, 1) := by decide +kernel
theorem dX12_compare_34 : decode cX12_compare 34 = .ok (.istore_n 2, 1) := by decide +kernel
theorem dX12_compare_35 : decode cX12_compare 35 = .ok (.iload_n 2, 1) := by decide +kernel
theorem dX12_compare_36 : decode cX12_compare 36 = .ok (.ifCond .lt 45, 3) := by decide +kernel
theorem dX12_compare_39 : decode cX12_compare 39 = .ok (.aload_n 0, 1) := by decide +kernel
theorem dX12_compare_40 : decode cX12_compare 40 = .ok (.getfield 7, 3) := by decide +kernel
theorem dX12_compare_43 : decode cX12_compare 43 = .ok (.iload_n 2, 1) := by decide +kernel
theorem dX12_compare_44 : decode cX12_compare 44 = .ok (.iaload, 1) := by decide +kernel
theorem dX12_compare_45 : decode cX12_compare 45 = .ok (.aload_n 1, 1) := by decide +kernel
theorem dX12_compare_46 : decode cX12_compare 46 = .ok (.getfield 7, 3) := by decide +kernel
theorem dX12_compare_49 : decode cX12_compare 49 = .ok (.iload_n 2, 1) := by decide +kernel
theorem dX12_compare_50 : decode cX12_compare 50 = .ok (.iaload, 1) := by decide +kernel
theorem dX12_compare_51 : decode cX12_compare 51 = .ok (.if_icmp .eq 24, 3) := by decide +kernel
theorem dX12_compare_54 : decode cX12_compare 54 = .ok (.aload_n 0, 1) := by decide +kernel
theorem dX12_compare_55 : decode cX12_compare 55 = .ok (.getfield 7, 3) := by decide +kernel
theorem dX12_compare_58 : decode cX12_compare 58 = .ok (.iload_n 2, 1) := by decide +kernel
theorem dX12_compare_59 : decode cX12_compare 59 = .ok (.iaload, 1) := by decide +kernel
theorem dX12_compare_60 : decode cX12_compare 60 = .ok (.aload_n 1, 1) := by decide +kernel
theorem dX12_compare_61 : decode cX12_compare 61 = .ok (.getfield 7, 3) := by decide +kernel
theorem dX12_compare_64 : decode cX12_compare 64 = .ok (.iload_n 2, 1) := by decide +kernel
theorem dX12_compare_65 : decode cX12_compare 65 = .ok (.iaload, 1) := by decide +kernel
theorem dX12_compare_66 : decode cX12_compare 66 = .ok (.if_icmp .ge 7, 3) := by decide +kernel
theorem dX12_compare_69 : decode cX12_compare 69 = .ok (.iconst (-1), 1) := by decide +kernel
theorem dX12_compare_70 : decode cX12_compare 70 = .ok (.goto 4, 3) := by decide +kernel
theorem dX12_compare_73 : decode cX12_compare 73 = .ok (.iconst 1, 1) := by decide +kernel
theorem dX12_compare_74 : decode cX12_compare 74 = .ok (.ireturn, 1) := by decide +kernel
theorem dX12_compare_75 : decode cX12_compare 75 = .ok (.iinc 2 (-1), 3) := by decide +kernel
theorem dX12_compare_78 : decode cX12_compare 78 = .ok (.goto (-43), 3) := by decide +kernel
theorem dX12_compare_81 : decode cX12_compare 81 = .ok (.iconst 0, 1) := by decide +kernel
theorem dX12_compare_82 : decode cX12_compare 82 = .ok (.ireturn, 1) := by decide +kernel
abbrev r_X12_compare : Room := { frames := 0, cells := 0, slots := 0, locals := 0 }
abbrev m_X12_compare : xMd := (cX12_compare, RX12, 3, (some FieldType.int), false, r_X12_compare)
def b_X12_compare_27 (Q : xQ) (K35 : xK) : xK := x_iret Q
def b_X12_compare_74 (Q : xQ) (K35 : xK) : xK := x_iret Q
def b_X12_compare_0 (Q : xQ) (K35 : xK) : xK := x_aload 0 <| x_get 11 1 <| x_aload 1 <| x_get 11 1 <| x_icmp_eq (x_aload 0 <| x_get 11 1 <| x_c (.int 1) <| x_isub <| x_istore 2 <| K35) <| x_aload 0 <| x_get 11 1 <| x_aload 1 <| x_get 11 1 <| x_icmp_ge (x_c (.int 1) <| (b_X12_compare_27 Q K35)) <| x_c (.int (-1)) <| (b_X12_compare_27 Q K35)
def b_X12_compare_35 (Q : xQ) (K35 : xK) : xK := x_iload 2 <| x_if_lt (x_c (.int 0) <| x_iret Q) <| x_aload 0 <| x_get 11 0 <| x_iload 2 <| x_iald <| x_aload 1 <| x_get 11 0 <| x_iload 2 <| x_iald <| x_icmp_eq (x_iinc 2 (-1) <| K35) <| x_aload 0 <| x_get 11 0 <| x_iload 2 <| x_iald <| x_aload 1 <| x_get 11 0 <| x_iload 2 <| x_iald <| x_icmp_ge (x_c (.int 1) <| (b_X12_compare_74 Q K35)) <| x_c (.int (-1)) <| (b_X12_compare_74 Q K35)
theorem s_X12_compare_27 (G : xG) (l : Launch) (Q : xQ) (K35 : xK) (h35 : xW G l m_X12_compare xX0 (xPm G Q r_X12_compare) 35 K35) : xW G l m_X12_compare xX0 (xPm G Q r_X12_compare) 27 (b_X12_compare_27 Q K35) := xo_iret (pc := 27) rfl dX12_compare_27
theorem s_X12_compare_74 (G : xG) (l : Launch) (Q : xQ) (K35 : xK) (h35 : xW G l m_X12_compare xX0 (xPm G Q r_X12_compare) 35 K35) : xW G l m_X12_compare xX0 (xPm G Q r_X12_compare) 74 (b_X12_compare_74 Q K35) := xo_iret (pc := 74) rfl dX12_compare_74
theorem s_X12_compare_0 (G : xG) (l : Launch) (Q : xQ) (K35 : xK) (h35 : xW G l m_X12_compare xX0 (xPm G Q r_X12_compare) 35 K35) : xW G l m_X12_compare xX0 (xPm G Q r_X12_compare) 0 (b_X12_compare_0 Q K35) := xo_aload_n (pc := 0) (i := 0) dX12_compare_0 rfl <| xo_get (pc := 1) (ci := 11) (i := 1) rfl ok11 (by decide) dX12_compare_1 kw1168 <| xo_aload_n (pc := 4) (i := 1) dX12_compare_4 rfl <| xo_get (pc := 5) (ci := 11) (i := 1) rfl ok11 (by decide) dX12_compare_5 kw1168 <| xo_icmp_eq (pc := 8) (tgt := 28) dX12_compare_8 (by decide) (xo_aload_n (pc := 28) (i := 0) dX12_compare_28 rfl <| xo_get (pc := 29) (ci := 11) (i := 1) rfl ok11 (by decide) dX12_compare_29 kw1168 <| xo_iconst (pc := 32) dX12_compare_32 (by decide) <| xo_isub (pc := 33) dX12_compare_33 <| xo_istore_n (pc := 34) (i := 2) dX12_compare_34 rfl (by decide) <| h35) <| xo_aload_n (pc := 11) (i := 0) dX12_compare_11 rfl <| xo_get (pc := 12) (ci := 11) (i := 1) rfl ok11 (by decide) dX12_compare_12 kw1168 <| xo_aload_n (pc := 15) (i := 1) dX12_compare_15 rfl <| xo_get (pc := 16) (ci := 11) (i := 1) rfl ok11 (by decide) dX12_compare_16 kw1168 <| xo_icmp_ge (pc := 19) (tgt := 26) dX12_compare_19 (by decide) (xo_iconst (pc := 26) dX12_compare_26 (by decide) <| (s_X12_compare_27 G l Q K35 h35)) <| xo_iconst (pc := 22) dX12_compare_22 (by decide) <| xo_goto (pc := 23) (tgt := 27) dX12_compare_23 (by decide) <| (s_X12_compare_27 G l Q K35 h35)
theorem s_X12_compare_35 (G : xG) (l : Launch) (Q : xQ) (K35 : xK) (h35 : xW G l m_X12_compare xX0 (xPm G Q r_X12_compare) 35 K35) : xW G l m_X12_compare xX0 (xPm G Q r_X12_compare) 35 (b_X12_compare_35 Q K35) := xo_iload_n (pc := 35) (i := 2) dX12_compare_35 rfl <| xo_if_lt (pc := 36) (tgt := 81) dX12_compare_36 (by decide) (xo_iconst (pc := 81) dX12_compare_81 (by decide) <| xo_iret (pc := 82) rfl dX12_compare_82) <| xo_aload_n (pc := 39) (i := 0) dX12_compare_39 rfl <| xo_get (pc := 40) (ci := 11) (i := 0) rfl ok11 (by decide) dX12_compare_40 kw1167 <| xo_iload_n (pc := 43) (i := 2) dX12_compare_43 rfl <| xo_iald (pc := 44) dX12_compare_44 <| xo_aload_n (pc := 45) (i := 1) dX12_compare_45 rfl <| xo_get (pc := 46) (ci := 11) (i := 0) rfl ok11 (by decide) dX12_compare_46 kw1167 <| xo_iload_n (pc := 49) (i := 2) dX12_compare_49 rfl <| xo_iald (pc := 50) dX12_compare_50 <| xo_icmp_eq (pc := 51) (tgt := 75) dX12_compare_51 (by decide) (xo_iinc (pc := 75) dX12_compare_75 (by decide) <| xo_goto (pc := 78) (tgt := 35) dX12_compare_78 (by decide) <| h35) <| xo_aload_n (pc := 54) (i := 0) dX12_compare_54 rfl <| xo_get (pc := 55) (ci := 11) (i := 0) rfl ok11 (by decide) dX12_compare_55 kw1167 <| xo_iload_n (pc := 58) (i := 2) dX12_compare_58 rfl <| xo_iald (pc := 59) dX12_compare_59 <| xo_aload_n (pc := 60) (i := 1) dX12_compare_60 rfl <| xo_get (pc := 61) (ci := 11) (i := 0) rfl ok11 (by decide) dX12_compare_61 kw1167 <| xo_iload_n (pc := 64) (i := 2) dX12_compare_64 rfl <| xo_iald (pc := 65) dX12_compare_65 <| xo_icmp_ge (pc := 66) (tgt := 73) dX12_compare_66 (by decide) (xo_iconst (pc := 73) dX12_compare_73 (by decide) <| (s_X12_compare_74 G l Q K35 h35)) <| xo_iconst (pc := 69) dX12_compare_69 (by decide) <| xo_goto (pc := 70) (tgt := 74) dX12_compare_70 (by decide) <| (s_X12_compare_74 G l Q K35 h35)

def C_X12_compare : xC := fun av S Q => ∃ (a b u v : Nat), av = [.ref a, .ref b] ∧ mV S.1 a u ∧ mV S.1 b v ∧ Q (some (.int (if u < v then -1 else if u = v then 0 else 1))) S
def cn_X12_compare : Nat × Nat × Int32 → List (Nat × Value) := fun v => [(0, .ref v.1), (1, .ref v.2.1), (2, .int v.2.2)]
def I_X12_compare (Q : xQ) : Nat → Nat × Nat × Int32 → xS → Prop := fun k v S => match v with
  | (a, b, i) => ∃ x y n, mR S.1 a x n ∧ mR S.1 b y n ∧ k ≤ n ∧ i = nI k - 1 ∧ (∀ j, k ≤ j → j < n → x j = y j) ∧ Q (some (.int (if sd 65536 x n < sd 65536 y n then -1 else if sd 65536 x n = sd 65536 y n then 0 else 1))) S
theorem cM_X12_compare (G : xG) (l : Launch) : xM G l yX12_compare cX12_compare 3 (some FieldType.int) r_X12_compare C_X12_compare := by
  refine xM_of (fun Q => b_X12_compare_0 Q (xInv cn_X12_compare (I_X12_compare Q))) RX12 false (fun Q => s_X12_compare_0 G l Q _ (xW.lp (b_X12_compare_35 Q) (fun K hK => s_X12_compare_35 G l Q K hK) ?_)) (by decide) rfl (by decide) ?_
  · rintro k ⟨a, b, i⟩ S ⟨x, y, n, ra, rb, hk, hi, hd, hQ⟩
    have n2 := ra.2.2.1
    cases k with
    | zero =>
      have e : i < 0 := by rw [hi]; decide
      simp only [x_c, x_iload, x_lload, x_aload, x_istore, x_lstore, x_astore, x_iinc, x_iadd, x_isub, x_imul, x_iand, x_ior, x_ixor, x_ladd, x_lsub, x_lmul, x_land, x_lor, x_lxor, x_idiv, x_irem, x_ldiv, x_lrem, x_ineg, x_lneg, x_ishl, x_ishr, x_iushr, x_lshl, x_lshr, x_lushr, x_i2l, x_l2i, x_i2b, x_i2c, x_lcmp, x_if_eq, x_if_ne, x_if_lt, x_if_ge, x_if_gt, x_if_le, x_icmp_eq, x_icmp_ne, x_icmp_lt, x_icmp_ge, x_icmp_gt, x_icmp_le, x_dup, x_pop, x_dup_x1, x_dup2, x_iret, x_zret, x_lret, x_aret, x_vret, x_call, x_callv, x_calli, x_oinit, x_mmax, x_mmin, x_mabs, x_mmaxL, x_mminL, x_mabsL, lg_cmp_ge, lg_cmp_le, lg_cmp_gt, lg_cmp_lt, lg_cmp_eq, xlk, xs1, xs2, lv_args, Value.category, List.filter_cons, List.filter_nil, Nat.reduceAdd, Nat.reduceBEq, Nat.reduceEqDiff, Nat.reduceSub, Nat.sub_zero, beq_self_eq_true, Bool.not_true, Bool.not_false, Bool.and_true, Bool.and_false, Bool.true_and, Bool.false_and, reduceIte, reduceCtorEq, Bool.false_eq_true, Nat.one_ne_zero, Nat.zero_ne_one, Nat.zero_add, Option.toList_some, Option.toList_none, List.nil_append, List.cons_append, List.take_succ_cons, List.take_zero, List.take_nil, List.drop_succ_cons, List.drop_zero, List.length_cons, List.length_nil, List.reverse_cons, List.reverse_nil, List.head?_cons, List.map_cons, List.map_nil, List.sum_cons, List.sum_nil, true_and, and_true, List.getElem?_cons_zero, List.getElem?_cons_succ, Prod.eta, x_get, x_put, x_iald, x_iast, x_bald, x_bast, x_lald, x_last, x_alen, xup_s, xup_a1, xup_1a, xup_uu, nr_i, nr_l, nr_o, nr_a, ft_i, ft_l, ft_o, ft_a, Nat.reduceLT, i_cl0, i_cl1, i_n1, i_m1, List.set_cons_zero, List.set_cons_succ, Nat.reduceLeDiff, Nat.le_refl, Nat.zero_le, Nat.add_zero, b_X12_compare_0, b_X12_compare_27, b_X12_compare_35, b_X12_compare_74, cn_X12_compare]
      refine ⟨fun _ => ?_, fun q => absurd e q⟩
      have e2 : sd 65536 x n = sd 65536 y n := sd_congr fun j hj => hd j (Nat.zero_le j) hj
      rw [if_neg (by omega), if_pos e2] at hQ
      exact hQ
    | succ k =>
      rw [nI_pred] at hi
      subst hi
      have xk := ra.2.2.2 k
      have yk := rb.2.2.2 k
      have ck := m_cl (n := k) (by omega)
      have eE : nI (x k) = nI (y k) ↔ x k = y k := nI_eq (by omega) (by omega)
      have eG : nI (y k) ≤ nI (x k) ↔ y k ≤ x k := nI_leI (by omega) (by omega)
      simp only [x_c, x_iload, x_lload, x_aload, x_istore, x_lstore, x_astore, x_iinc, x_iadd, x_isub, x_imul, x_iand, x_ior, x_ixor, x_ladd, x_lsub, x_lmul, x_land, x_lor, x_lxor, x_idiv, x_irem, x_ldiv, x_lrem, x_ineg, x_lneg, x_ishl, x_ishr, x_iushr, x_lshl, x_lshr, x_lushr, x_i2l, x_l2i, x_i2b, x_i2c, x_lcmp, x_if_eq, x_if_ne, x_if_lt, x_if_ge, x_if_gt, x_if_le, x_icmp_eq, x_icmp_ne, x_icmp_lt, x_icmp_ge, x_icmp_gt, x_icmp_le, x_dup, x_pop, x_dup_x1, x_dup2, x_iret, x_zret, x_lret, x_aret, x_vret, x_call, x_callv, x_calli, x_oinit, x_mmax, x_mmin, x_mabs, x_mmaxL, x_mminL, x_mabsL, lg_cmp_ge, lg_cmp_le, lg_cmp_gt, lg_cmp_lt, lg_cmp_eq, xlk, xs1, xs2, lv_args, Value.category, List.filter_cons, List.filter_nil, Nat.reduceAdd, Nat.reduceBEq, Nat.reduceEqDiff, Nat.reduceSub, Nat.sub_zero, beq_self_eq_true, Bool.not_true, Bool.not_false, Bool.and_true, Bool.and_false, Bool.true_and, Bool.false_and, reduceIte, reduceCtorEq, Bool.false_eq_true, Nat.one_ne_zero, Nat.zero_ne_one, Nat.zero_add, Option.toList_some, Option.toList_none, List.nil_append, List.cons_append, List.take_succ_cons, List.take_zero, List.take_nil, List.drop_succ_cons, List.drop_zero, List.length_cons, List.length_nil, List.reverse_cons, List.reverse_nil, List.head?_cons, List.map_cons, List.map_nil, List.sum_cons, List.sum_nil, true_and, and_true, List.getElem?_cons_zero, List.getElem?_cons_succ, Prod.eta, x_get, x_put, x_iald, x_iast, x_bald, x_bast, x_lald, x_last, x_alen, xup_s, xup_a1, xup_1a, xup_uu, nr_i, nr_l, nr_o, nr_a, ft_i, ft_l, ft_o, ft_a, Nat.reduceLT, i_cl0, i_cl1, i_n1, i_m1, List.set_cons_zero, List.set_cons_succ, Nat.reduceLeDiff, Nat.le_refl, Nat.zero_le, Nat.add_zero, b_X12_compare_0, b_X12_compare_27, b_X12_compare_35, b_X12_compare_74, cn_X12_compare, ra.1, ra.2.1, rb.1, rb.2.1, ck, eE, eG]
      refine ⟨fun q => absurd q (nI_pos (by omega)), fun _ => ⟨vp_in_nI (by omega) (by decide), vp_in_nI (by omega) (by decide), fun z => ?_, fun z => ⟨vp_in_nI (by omega) (by decide), vp_in_nI (by omega) (by decide), fun w => ?_, fun w => ?_⟩⟩⟩
      · refine xInvL.mk k (a, b, nI k - 1) (by omega) ⟨rfl, rfl, rfl, trivial⟩ ⟨x, y, n, ra, rb, by omega, rfl, fun j h1 h2 => ?_, hQ⟩
        rcases Nat.lt_or_ge k j with c | c
        · exact hd j c h2
        · rw [show j = k by omega]; exact z
      · have := sd_cmp (B := 65536) (d := y) (e := x) (n := n) (i := k) (by omega) rb.2.2.2 (fun j h1 h2 => (hd j h1 h2).symm) (by omega)
        rw [if_neg (by omega), if_neg (by omega)] at hQ
        exact hQ
      · have := sd_cmp (B := 65536) (d := x) (e := y) (n := n) (i := k) (by omega) ra.2.2.2 (fun j h1 h2 => hd j h1 h2) (by omega)
        rw [if_pos (by omega)] at hQ
        exact hQ
  · rintro av S Q ⟨a, b, u, v, rfl, ⟨x, n, ra, rfl, zx⟩, ⟨y, m, rb, rfl, zy⟩, hQ⟩
    refine ⟨Nat.le_of_ble_eq_true rfl, ?_⟩
    have h1 := ra.2.2.1
    have h2 := rb.2.2.1
    have eE : nI n = nI m ↔ n = m := nI_eq (by omega) (by omega)
    have eG : nI m ≤ nI n ↔ m ≤ n := nI_leI (by omega) (by omega)
    have lx := sd_lt (B := 65536) (d := x) (n := n) (fun i _ => ra.2.2.2 i)
    have ly := sd_lt (B := 65536) (d := y) (n := m) (fun i _ => rb.2.2.2 i)
    simp only [x_c, x_iload, x_lload, x_aload, x_istore, x_lstore, x_astore, x_iinc, x_iadd, x_isub, x_imul, x_iand, x_ior, x_ixor, x_ladd, x_lsub, x_lmul, x_land, x_lor, x_lxor, x_idiv, x_irem, x_ldiv, x_lrem, x_ineg, x_lneg, x_ishl, x_ishr, x_iushr, x_lshl, x_lshr, x_lushr, x_i2l, x_l2i, x_i2b, x_i2c, x_lcmp, x_if_eq, x_if_ne, x_if_lt, x_if_ge, x_if_gt, x_if_le, x_icmp_eq, x_icmp_ne, x_icmp_lt, x_icmp_ge, x_icmp_gt, x_icmp_le, x_dup, x_pop, x_dup_x1, x_dup2, x_iret, x_zret, x_lret, x_aret, x_vret, x_call, x_callv, x_calli, x_oinit, x_mmax, x_mmin, x_mabs, x_mmaxL, x_mminL, x_mabsL, lg_cmp_ge, lg_cmp_le, lg_cmp_gt, lg_cmp_lt, lg_cmp_eq, xlk, xs1, xs2, lv_args, Value.category, List.filter_cons, List.filter_nil, Nat.reduceAdd, Nat.reduceBEq, Nat.reduceEqDiff, Nat.reduceSub, Nat.sub_zero, beq_self_eq_true, Bool.not_true, Bool.not_false, Bool.and_true, Bool.and_false, Bool.true_and, Bool.false_and, reduceIte, reduceCtorEq, Bool.false_eq_true, Nat.one_ne_zero, Nat.zero_ne_one, Nat.zero_add, Option.toList_some, Option.toList_none, List.nil_append, List.cons_append, List.take_succ_cons, List.take_zero, List.take_nil, List.drop_succ_cons, List.drop_zero, List.length_cons, List.length_nil, List.reverse_cons, List.reverse_nil, List.head?_cons, List.map_cons, List.map_nil, List.sum_cons, List.sum_nil, true_and, and_true, List.getElem?_cons_zero, List.getElem?_cons_succ, Prod.eta, x_get, x_put, x_iald, x_iast, x_bald, x_bast, x_lald, x_last, x_alen, xup_s, xup_a1, xup_1a, xup_uu, nr_i, nr_l, nr_o, nr_a, ft_i, ft_l, ft_o, ft_a, Nat.reduceLT, i_cl0, i_cl1, i_n1, i_m1, List.set_cons_zero, List.set_cons_succ, Nat.reduceLeDiff, Nat.le_refl, Nat.zero_le, Nat.add_zero, b_X12_compare_0, b_X12_compare_27, ra.1, rb.1, eE, eG]
    refine ⟨fun q => ?_, fun q => ⟨fun w => ?_, fun w => ?_⟩⟩
    · subst q
      exact xInv.mk n (a, b, nI n - 1) ⟨rfl, rfl, rfl, trivial⟩ ⟨x, y, n, ra, rb, Nat.le_refl _, rfl, fun j h1 h2 => by omega, hQ⟩
    · have k1 := sd_top (B := 65536) (by omega) (zx (by omega))
      have k2 : 65536 ^ m ≤ 65536 ^ (n - 1) := Nat.pow_le_pow_right (by decide) (by omega)
      rw [if_neg (by omega), if_neg (by omega)] at hQ
      exact hQ
    · have k1 := sd_top (B := 65536) (by omega) (zy (by omega))
      have k2 : 65536 ^ n ≤ 65536 ^ (m - 1) := Nat.pow_le_pow_right (by decide) (by omega)
      rw [if_pos (by omega)] at hQ
      exact hQ
theorem dX12_shift_0 : decode cX12_shift 0 = .ok (.iload_n 1, 1) := by decide +kernel
theorem dX12_shift_1 : decode cX12_shift 1 = .ok (.bipush 16, 2) := by decide +kernel
theorem dX12_shift_3 : decode cX12_shift 3 = .ok (.idiv, 1) := by decide +kernel
theorem dX12_shift_4 : decode cX12_shift 4 = .ok (.istore_n 2, 1) := by decide +kernel
theorem dX12_shift_5 : decode cX12_shift 5 = .ok (.iload_n 1, 1) := by decide +kernel
theorem dX12_shift_6 : decode cX12_shift 6 = .ok (.bipush 16, 2) := by decide +kernel
theorem dX12_shift_8 : decode cX12_shift 8 = .ok (.irem, 1) := by decide +kernel
theorem dX12_shift_9 : decode cX12_shift 9 = .ok (.istore_n 3, 1) := by decide +kernel
theorem dX12_shift_10 : decode cX12_shift 10 = .ok (.aload_n 0, 1) := by decide +kernel
theorem dX12_shift_11 : decode cX12_shift 11 = .ok (.getfield 13, 3) := by decide +kernel
theorem dX12_shift_14 : decode cX12_shift 14 = .ok (.ifCond .ne 4, 3) := by decide +kernel
theorem dX12_shift_17 : decode cX12_shift 17 = .ok (.return_, 1) := by decide +kernel
theorem dX12_shift_18 : decode cX12_shift 18 = .ok (.aload_n 0, 1) := by decide +kernel
theorem dX12_shift_19 : decode cX12_shift 19 = .ok (.getfield 13, 3) := by decide +kernel
theorem dX12_shift_22 : decode cX12_shift 22 = .ok (.iconst 1, 1) := by decide +kernel
theorem dX12_shift_23 : decode cX12_shift 23 = .ok (.isub, 1) := by decide +kernel
theorem dX12_shift_24 : decode cX12_shift 24 = .ok (.istore 4, 2) := by decide +kernel
theorem dX12_shift_26 : decode cX12_shift 26 = .ok (.iload 4, 2) := by decide +kernel
theorem dX12_shift_28 : decode cX12_shift 28 = .ok (.ifCond .lt 25, 3) := by decide +kernel
theorem dX12_shift_31 : decode cX12_shift 31 = .ok (.aload_n 0, 1) := by decide +kernel
theorem dX12_shift_32 : decode cX12_shift 32 = .ok (.getfield 7, 3) := by decide +kernel
theorem dX12_shift_35 : decode cX12_shift 35 = .ok (.iload 4, 2) := by decide +kernel
theorem dX12_shift_37 : decode cX12_shift 37 = .ok (.iload_n 2, 1) := by decide +kernel
theorem dX12_shift_38 : decode cX12_shift 38 = .ok (.iadd, 1) := by decide +kernel
theorem dX12_shift_39 : decode cX12_shift 39 = .ok (.aload_n 0, 1) := by decide +kernel
theorem dX12_shift_40 : decode cX12_shift 40 = .ok (.getfield 7, 3) := by decide +kernel
theorem dX12_shift_43 : decode cX12_shift 43 = .ok (.iload 4, 2) := by decide +kernel
theorem dX12_shift_45 : decode cX12_shift 45 = .ok (.iaload, 1) := by decide +kernel
theorem dX12_shift_46 : decode cX12_shift 46 = .ok (.iastore, 1) := by decide +kernel
theorem dX12_shift_47 : decode cX12_shift 47 = .ok (.iinc 4 (-1), 3) := by decide +kernel
theorem dX12_shift_50 : decode cX12_shift 50 = .ok (.goto (-24), 3) := by decide +kernel
theorem dX12_shift_53 : decode cX12_shift 53 = .ok (.iconst 0, 1) := by decide +kernel
theorem dX12_shift_54 : decode cX12_shift 54 = .ok (.istore 4, 2) := by decide +kernel
theorem dX12_shift_56 : decode cX12_shift 56 = .ok (.iload 4, 2) := by decide +kernel
theorem dX12_shift_58 : decode cX12_shift 58 = .ok (.iload_n 2, 1) := by decide +kernel
theorem dX12_shift_59 : decode cX12_shift 59 = .ok (.if_icmp .ge 17, 3) := by decide +kernel
theorem dX12_shift_62 : decode cX12_shift 62 = .ok (.aload_n 0, 1) := by decide +kernel
theorem dX12_shift_63 : decode cX12_shift 63 = .ok (.getfield 7, 3) := by decide +kernel
theorem dX12_shift_66 : decode cX12_shift 66 = .ok (.iload 4, 2) := by decide +kernel
theorem dX12_shift_68 : decode cX12_shift 68 = .ok (.iconst 0, 1) := by decide +kernel
theorem dX12_shift_69 : decode cX12_shift 69 = .ok (.iastore, 1) := by decide +kernel
theorem dX12_shift_70 : decode cX12_shift 70 = .ok (.iinc 4 1, 3) := by decide +kernel
theorem dX12_shift_73 : decode cX12_shift 73 = .ok (.goto (-17), 3) := by decide +kernel
theorem dX12_shift_76 : decode cX12_shift 76 = .ok (.aload_n 0, 1) := by decide +kernel
theorem dX12_shift_77 : decode cX12_shift 77 = .ok (.aload_n 0, 1) := by decide +kernel
theorem dX12_shift_78 : decode cX12_shift 78 = .ok (.getfield 13, 3) := by decide +kernel
theorem dX12_shift_81 : decode cX12_shift 81 = .ok (.iload_n 2, 1) := by decide +kernel
theorem dX12_shift_82 : decode cX12_shift 82 = .ok (.iadd, 1) := by decide +kernel
theorem dX12_shift_83 : decode cX12_shift 83 = .ok (.putfield 13, 3) := by decide +kernel
theorem dX12_shift_86 : decode cX12_shift 86 = .ok (.aload_n 0, 1) := by decide +kernel
theorem dX12_shift_87 : decode cX12_shift 87 = .ok (.iconst 1, 1) := by decide +kernel
theorem dX12_shift_88 : decode cX12_shift 88 = .ok (.iload_n 3, 1) := by decide +kernel
theorem dX12_shift_89 : decode cX12_shift 89 = .ok (.ishl, 1) := by decide +kernel
theorem dX12_shift_90 : decode cX12_shift 90 = .ok (.iconst 0, 1) := by decide +kernel
theorem dX12_shift_91 : decode cX12_shift 91 = .ok (.invokevirtual 22, 3) := by decide +kernel
theorem dX12_shift_94 : decode cX12_shift 94 = .ok (.return_, 1) := by decide +kernel
abbrev r_X12_shift : Room := { frames := 1, cells := 0, slots := 0, locals := 27 }
abbrev m_X12_shift : xMd := (cX12_shift, RX12, 5, none, false, r_X12_shift)
def b_X12_shift_0 (Q : xQ) (K26 : xK) (K56 : xK) : xK := x_iload 1 <| x_c (.int 16) <| x_idiv <| x_istore 2 <| x_iload 1 <| x_c (.int 16) <| x_irem <| x_istore 3 <| x_aload 0 <| x_get 11 1 <| x_if_ne (x_aload 0 <| x_get 11 1 <| x_c (.int 1) <| x_isub <| x_istore 4 <| K26) <| x_vret Q
def b_X12_shift_26 (Q : xQ) (K26 : xK) (K56 : xK) : xK := x_iload 4 <| x_if_lt (x_c (.int 0) <| x_istore 4 <| K56) <| x_aload 0 <| x_get 11 0 <| x_iload 4 <| x_iload 2 <| x_iadd <| x_aload 0 <| x_get 11 0 <| x_iload 4 <| x_iald <| x_iast <| x_iinc 4 (-1) <| K26
def b_X12_shift_56 (Q : xQ) (K26 : xK) (K56 : xK) : xK := x_iload 4 <| x_iload 2 <| x_icmp_ge (x_aload 0 <| x_aload 0 <| x_get 11 1 <| x_iload 2 <| x_iadd <| x_put 11 1 .int <| x_aload 0 <| x_c (.int 1) <| x_iload 3 <| x_ishl <| x_c (.int 0) <| x_callv 11 C_X12_grow 3 0 0 <| x_vret Q) <| x_aload 0 <| x_get 11 0 <| x_iload 4 <| x_c (.int 0) <| x_iast <| x_iinc 4 1 <| K56
theorem s_X12_shift_0 (G : xG) (l : Launch) (Q : xQ) (K26 : xK) (K56 : xK) (h26 : xW G l m_X12_shift xX0 (xPm G Q r_X12_shift) 26 K26) (h56 : xW G l m_X12_shift xX0 (xPm G Q r_X12_shift) 56 K56) : xW G l m_X12_shift xX0 (xPm G Q r_X12_shift) 0 (b_X12_shift_0 Q K26 K56) := xo_iload_n (pc := 0) (i := 1) dX12_shift_0 rfl <| xo_bipush (pc := 1) dX12_shift_1 (by decide) <| xo_idiv (pc := 3) dX12_shift_3 <| xo_istore_n (pc := 4) (i := 2) dX12_shift_4 rfl (by decide) <| xo_iload_n (pc := 5) (i := 1) dX12_shift_5 rfl <| xo_bipush (pc := 6) dX12_shift_6 (by decide) <| xo_irem (pc := 8) dX12_shift_8 <| xo_istore_n (pc := 9) (i := 3) dX12_shift_9 rfl (by decide) <| xo_aload_n (pc := 10) (i := 0) dX12_shift_10 rfl <| xo_get (pc := 11) (ci := 11) (i := 1) rfl ok11 (by decide) dX12_shift_11 kw1168 <| xo_if_ne (pc := 14) (tgt := 18) dX12_shift_14 (by decide) (xo_aload_n (pc := 18) (i := 0) dX12_shift_18 rfl <| xo_get (pc := 19) (ci := 11) (i := 1) rfl ok11 (by decide) dX12_shift_19 kw1168 <| xo_iconst (pc := 22) dX12_shift_22 (by decide) <| xo_isub (pc := 23) dX12_shift_23 <| xo_istore (pc := 24) (i := 4) dX12_shift_24 (by decide) <| h26) <| xo_vret (pc := 17) rfl dX12_shift_17
theorem s_X12_shift_26 (G : xG) (l : Launch) (Q : xQ) (K26 : xK) (K56 : xK) (h26 : xW G l m_X12_shift xX0 (xPm G Q r_X12_shift) 26 K26) (h56 : xW G l m_X12_shift xX0 (xPm G Q r_X12_shift) 56 K56) : xW G l m_X12_shift xX0 (xPm G Q r_X12_shift) 26 (b_X12_shift_26 Q K26 K56) := xo_iload (pc := 26) (i := 4) dX12_shift_26 <| xo_if_lt (pc := 28) (tgt := 53) dX12_shift_28 (by decide) (xo_iconst (pc := 53) dX12_shift_53 (by decide) <| xo_istore (pc := 54) (i := 4) dX12_shift_54 (by decide) <| h56) <| xo_aload_n (pc := 31) (i := 0) dX12_shift_31 rfl <| xo_get (pc := 32) (ci := 11) (i := 0) rfl ok11 (by decide) dX12_shift_32 kw1167 <| xo_iload (pc := 35) (i := 4) dX12_shift_35 <| xo_iload_n (pc := 37) (i := 2) dX12_shift_37 rfl <| xo_iadd (pc := 38) dX12_shift_38 <| xo_aload_n (pc := 39) (i := 0) dX12_shift_39 rfl <| xo_get (pc := 40) (ci := 11) (i := 0) rfl ok11 (by decide) dX12_shift_40 kw1167 <| xo_iload (pc := 43) (i := 4) dX12_shift_43 <| xo_iald (pc := 45) dX12_shift_45 <| xo_iast (pc := 46) dX12_shift_46 <| xo_iinc (pc := 47) dX12_shift_47 (by decide) <| xo_goto (pc := 50) (tgt := 26) dX12_shift_50 (by decide) <| h26
theorem s_X12_shift_56 (G : xG) (l : Launch) (Q : xQ) (K26 : xK) (K56 : xK) (h26 : xW G l m_X12_shift xX0 (xPm G Q r_X12_shift) 26 K26) (h56 : xW G l m_X12_shift xX0 (xPm G Q r_X12_shift) 56 K56) : xW G l m_X12_shift xX0 (xPm G Q r_X12_shift) 56 (b_X12_shift_56 Q K26 K56) := xo_iload (pc := 56) (i := 4) dX12_shift_56 <| xo_iload_n (pc := 58) (i := 2) dX12_shift_58 rfl <| xo_icmp_ge (pc := 59) (tgt := 76) dX12_shift_59 (by decide) (xo_aload_n (pc := 76) (i := 0) dX12_shift_76 rfl <| xo_aload_n (pc := 77) (i := 0) dX12_shift_77 rfl <| xo_get (pc := 78) (ci := 11) (i := 1) rfl ok11 (by decide) dX12_shift_78 kw1168 <| xo_iload_n (pc := 81) (i := 2) dX12_shift_81 rfl <| xo_iadd (pc := 82) dX12_shift_82 <| xo_put (pc := 83) (ci := 11) (i := 1) rfl ok11 (by decide) rfl rfl dX12_shift_83 kw1168 <| xo_aload_n (pc := 86) (i := 0) dX12_shift_86 rfl <| xo_iconst (pc := 87) dX12_shift_87 (by decide) <| xo_iload_n (pc := 88) (i := 3) dX12_shift_88 rfl <| xo_ishl (pc := 89) dX12_shift_89 <| xo_iconst (pc := 90) dX12_shift_90 (by decide) <| xo_callV (pc := 91) (np := 2) (ci := 11) rfl (cM_X12_grow G l) dX12_shift_91 kw1451 kw1448 kw1449 kw1450 kw14 (by decide +kernel) (by decide) <| xo_vret (pc := 94) rfl dX12_shift_94) <| xo_aload_n (pc := 62) (i := 0) dX12_shift_62 rfl <| xo_get (pc := 63) (ci := 11) (i := 0) rfl ok11 (by decide) dX12_shift_63 kw1167 <| xo_iload (pc := 66) (i := 4) dX12_shift_66 <| xo_iconst (pc := 68) dX12_shift_68 (by decide) <| xo_iast (pc := 69) dX12_shift_69 <| xo_iinc (pc := 70) dX12_shift_70 (by decide) <| xo_goto (pc := 73) (tgt := 56) dX12_shift_73 (by decide) <| h56

def C_X12_shift : xC := fun av S Q => ∃ (t u s : Nat), av = [.ref t, .int (nI s)] ∧ s < 2 ^ 20 ∧ mV S.1 t u ∧ u * 2 ^ s < 65536 ^ 640 ∧ ∀ h', xoff h' S.1 t (t + 2) → mV h' t (u * 2 ^ s) → Q none (h', S.2)
def cn_X12_shift2 : Nat × Nat × Nat × Nat → List (Nat × Value) := fun v => [(0, .ref v.1), (2, .int (nI v.2.1)), (3, .int (nI v.2.2.1)), (4, .int (nI v.2.2.2))]
def I_X12_shift2 (Q : xQ) : Nat → Nat × Nat × Nat × Nat → xS → Prop := fun k v S => match v with
  | (t, w, ρ, i) => ∃ x n e, mR S.1 t x n ∧ 0 < n ∧ k + i = w ∧ n + w ≤ 640 ∧ ρ < 16 ∧ (∀ j, j < i → x j = 0) ∧ (∀ j, j < n → x (w + j) = e j) ∧ e (n - 1) ≠ 0 ∧ (65536 ^ w * sd 65536 e n) * 2 ^ ρ < 65536 ^ 640 ∧ ∀ h', xoff h' S.1 t (t + 2) → mV h' t ((65536 ^ w * sd 65536 e n) * 2 ^ ρ) → Q none (h', S.2)
def cn_X12_shift1 : Nat × Nat × Nat × Int32 → List (Nat × Value) := fun v => [(0, .ref v.1), (2, .int (nI v.2.1)), (3, .int (nI v.2.2.1)), (4, .int v.2.2.2)]
def I_X12_shift1 (Q : xQ) : Nat → Nat × Nat × Nat × Int32 → xS → Prop := fun k v S => match v with
  | (t, w, ρ, i) => ∃ x n e, mR S.1 t x n ∧ 0 < n ∧ i = nI k - 1 ∧ k ≤ n ∧ n + w ≤ 640 ∧ ρ < 16 ∧ (∀ j, j < k → x j = e j) ∧ (∀ j, k ≤ j → j < n → x (w + j) = e j) ∧ e (n - 1) ≠ 0 ∧ (65536 ^ w * sd 65536 e n) * 2 ^ ρ < 65536 ^ 640 ∧ ∀ h', xoff h' S.1 t (t + 2) → mV h' t ((65536 ^ w * sd 65536 e n) * 2 ^ ρ) → Q none (h', S.2)
theorem cM_X12_shift (G : xG) (l : Launch) : xM G l yX12_shift cX12_shift 5 none r_X12_shift C_X12_shift := by
  have L2 : ∀ Q K26, xW G l m_X12_shift xX0 (xPm G Q r_X12_shift) 26 K26 → xW G l m_X12_shift xX0 (xPm G Q r_X12_shift) 56 (xInv cn_X12_shift2 (I_X12_shift2 Q)) := by
    intro Q K26 h26
    refine xW.lp (b_X12_shift_56 Q K26) (fun K hK => s_X12_shift_56 G l Q K26 K h26 hK) ?_
    rintro k ⟨t, w, ρ, i⟩ S ⟨x, n, e, r, hn, hk, hnw, hρ, hz, hw, he, hm, hQ⟩
    have en := nI_leI (show w < 2 ^ 31 by omega) (show i < 2 ^ 31 by omega)
    have ci := m_cl (n := i) (by omega)
    have g1 : nI n + nI w = nI (n + w) := nI_add n w
    have sL : (1 : Int32) <<< (nI ρ &&& 31) = nI (2 ^ ρ) := by
      have := pk_shlN (n := 1) (nI ρ &&& 31) ρ (by
        have : ∀ b, b < 16 → ((nI b &&& 31).toBitVec.smod 32).toNat = b := by decide
        exact this ρ hρ) (by rw [Nat.one_mul]; exact Nat.pow_lt_pow_right (by decide) (by omega))
      rw [Nat.one_mul] at this
      exact this
    have u0 : upd (fun i => nI (x i)) i 0 = fun j => nI (va_up x i 0 j) := upd_nI x i 0
    simp only [x_c, x_iload, x_lload, x_aload, x_istore, x_lstore, x_astore, x_iinc, x_iadd, x_isub, x_imul, x_iand, x_ior, x_ixor, x_ladd, x_lsub, x_lmul, x_land, x_lor, x_lxor, x_idiv, x_irem, x_ldiv, x_lrem, x_ineg, x_lneg, x_ishl, x_ishr, x_iushr, x_lshl, x_lshr, x_lushr, x_i2l, x_l2i, x_i2b, x_i2c, x_lcmp, x_if_eq, x_if_ne, x_if_lt, x_if_ge, x_if_gt, x_if_le, x_icmp_eq, x_icmp_ne, x_icmp_lt, x_icmp_ge, x_icmp_gt, x_icmp_le, x_dup, x_pop, x_dup_x1, x_dup2, x_iret, x_zret, x_lret, x_aret, x_vret, x_call, x_callv, x_calli, x_oinit, x_mmax, x_mmin, x_mabs, x_mmaxL, x_mminL, x_mabsL, lg_cmp_ge, lg_cmp_le, lg_cmp_gt, lg_cmp_lt, lg_cmp_eq, xlk, xs1, xs2, lv_args, Value.category, List.filter_cons, List.filter_nil, Nat.reduceAdd, Nat.reduceBEq, Nat.reduceEqDiff, Nat.reduceSub, Nat.sub_zero, beq_self_eq_true, Bool.not_true, Bool.not_false, Bool.and_true, Bool.and_false, Bool.true_and, Bool.false_and, reduceIte, reduceCtorEq, Bool.false_eq_true, Nat.one_ne_zero, Nat.zero_ne_one, Nat.zero_add, Option.toList_some, Option.toList_none, List.nil_append, List.cons_append, List.take_succ_cons, List.take_zero, List.take_nil, List.drop_succ_cons, List.drop_zero, List.length_cons, List.length_nil, List.reverse_cons, List.reverse_nil, List.head?_cons, List.map_cons, List.map_nil, List.sum_cons, List.sum_nil, true_and, and_true, List.getElem?_cons_zero, List.getElem?_cons_succ, Prod.eta, x_get, x_put, x_iald, x_iast, x_bald, x_bast, x_lald, x_last, x_alen, xup_s, xup_a1, xup_1a, xup_uu, nr_i, nr_l, nr_o, nr_a, ft_i, ft_l, ft_o, ft_a, Nat.reduceLT, i_cl0, i_cl1, i_n1, i_m1, List.set_cons_zero, List.set_cons_succ, Nat.reduceLeDiff, Nat.le_refl, Nat.zero_le, Nat.add_zero, b_X12_shift_56, cn_X12_shift2, en, r.1, r.2.1, ci, g1, sL, u0]
    refine ⟨fun q => ?_, fun q => ⟨vp_in_nI (by omega) (by decide), ?_⟩⟩
    · obtain rfl : i = w := by omega
      have rM := r.sz (show n + i ≤ 640 by omega)
      have e1 := sd_low (B := 65536) (d := x) (e := e) hz n hw
      have hp := Nat.two_pow_pos ρ
      have hp2 : 2 ^ ρ < 65537 := Nat.lt_of_lt_of_le (Nat.pow_lt_pow_right (by decide) hρ) (by decide)
      refine ⟨⟨t, _, rfl, rM.1⟩, t, sd 65536 x (n + i), 2 ^ ρ, 0, rfl, ⟨x, n + i, rM, rfl, fun _ => ?_⟩, hp, hp2, by decide, ?_, fun h' o' r' => hQ h' (xoff_tr o' off_sz) ?_⟩
      · rw [show n + i - 1 = i + (n - 1) by omega, hw (n - 1) (by omega)]; exact he
      · rw [Nat.add_comm n i, e1]; exact hm
      · rw [Nat.add_comm n i, e1] at r'; exact r'
    · refine xInvL.mk (k - 1) (t, w, ρ, i + 1) (by omega) ⟨rfl, rfl, rfl, rfl, trivial⟩ ⟨_, n, e, r.wr (by decide), hn, by omega, hnw, hρ, fun j hj => ?_, fun j hj => ?_, he, hm, fun h' o' r' => hQ h' (xoff_tr o' off_wr) r'⟩
      · rcases Nat.lt_or_ge j i with c | c
        · rw [va_un (by omega)]; exact hz j c
        · rw [show j = i by omega, va_us]
      · rw [va_un (by omega)]; exact hw j hj
  have L1 : ∀ Q, xW G l m_X12_shift xX0 (xPm G Q r_X12_shift) 26 (xInv cn_X12_shift1 (I_X12_shift1 Q)) := by
    intro Q
    refine xW.lp (fun K => b_X12_shift_26 Q K (xInv cn_X12_shift2 (I_X12_shift2 Q))) (fun K hK => s_X12_shift_26 G l Q K _ hK (L2 Q K hK)) ?_
    rintro k ⟨t, w, ρ, i⟩ S ⟨x, n, e, r, hn, hi, hkn, hnw, hρ, ex, hw, he, hm, hQ⟩
    cases k with
    | zero =>
      have e0 : i < 0 := by rw [hi]; decide
      simp only [x_c, x_iload, x_lload, x_aload, x_istore, x_lstore, x_astore, x_iinc, x_iadd, x_isub, x_imul, x_iand, x_ior, x_ixor, x_ladd, x_lsub, x_lmul, x_land, x_lor, x_lxor, x_idiv, x_irem, x_ldiv, x_lrem, x_ineg, x_lneg, x_ishl, x_ishr, x_iushr, x_lshl, x_lshr, x_lushr, x_i2l, x_l2i, x_i2b, x_i2c, x_lcmp, x_if_eq, x_if_ne, x_if_lt, x_if_ge, x_if_gt, x_if_le, x_icmp_eq, x_icmp_ne, x_icmp_lt, x_icmp_ge, x_icmp_gt, x_icmp_le, x_dup, x_pop, x_dup_x1, x_dup2, x_iret, x_zret, x_lret, x_aret, x_vret, x_call, x_callv, x_calli, x_oinit, x_mmax, x_mmin, x_mabs, x_mmaxL, x_mminL, x_mabsL, lg_cmp_ge, lg_cmp_le, lg_cmp_gt, lg_cmp_lt, lg_cmp_eq, xlk, xs1, xs2, lv_args, Value.category, List.filter_cons, List.filter_nil, Nat.reduceAdd, Nat.reduceBEq, Nat.reduceEqDiff, Nat.reduceSub, Nat.sub_zero, beq_self_eq_true, Bool.not_true, Bool.not_false, Bool.and_true, Bool.and_false, Bool.true_and, Bool.false_and, reduceIte, reduceCtorEq, Bool.false_eq_true, Nat.one_ne_zero, Nat.zero_ne_one, Nat.zero_add, Option.toList_some, Option.toList_none, List.nil_append, List.cons_append, List.take_succ_cons, List.take_zero, List.take_nil, List.drop_succ_cons, List.drop_zero, List.length_cons, List.length_nil, List.reverse_cons, List.reverse_nil, List.head?_cons, List.map_cons, List.map_nil, List.sum_cons, List.sum_nil, true_and, and_true, List.getElem?_cons_zero, List.getElem?_cons_succ, Prod.eta, x_get, x_put, x_iald, x_iast, x_bald, x_bast, x_lald, x_last, x_alen, xup_s, xup_a1, xup_1a, xup_uu, nr_i, nr_l, nr_o, nr_a, ft_i, ft_l, ft_o, ft_a, Nat.reduceLT, i_cl0, i_cl1, i_n1, i_m1, List.set_cons_zero, List.set_cons_succ, Nat.reduceLeDiff, Nat.le_refl, Nat.zero_le, Nat.add_zero, b_X12_shift_26, cn_X12_shift1]
      refine ⟨fun _ => ?_, fun q => absurd e0 q⟩
      exact xInv.mk w (t, w, ρ, 0) ⟨rfl, rfl, rfl, rfl, trivial⟩ ⟨x, n, e, r, hn, rfl, hnw, hρ, fun j hj => absurd hj (Nat.not_lt_zero j), fun j hj => hw j (Nat.zero_le j) hj, he, hm, hQ⟩
    | succ k =>
      rw [nI_pred] at hi
      subst hi
      have ck := m_cl (n := k) (by omega)
      have c1 := m_cl (n := k + w) (by omega)
      have g1 : nI k + nI w = nI (k + w) := nI_add k w
      simp only [x_c, x_iload, x_lload, x_aload, x_istore, x_lstore, x_astore, x_iinc, x_iadd, x_isub, x_imul, x_iand, x_ior, x_ixor, x_ladd, x_lsub, x_lmul, x_land, x_lor, x_lxor, x_idiv, x_irem, x_ldiv, x_lrem, x_ineg, x_lneg, x_ishl, x_ishr, x_iushr, x_lshl, x_lshr, x_lushr, x_i2l, x_l2i, x_i2b, x_i2c, x_lcmp, x_if_eq, x_if_ne, x_if_lt, x_if_ge, x_if_gt, x_if_le, x_icmp_eq, x_icmp_ne, x_icmp_lt, x_icmp_ge, x_icmp_gt, x_icmp_le, x_dup, x_pop, x_dup_x1, x_dup2, x_iret, x_zret, x_lret, x_aret, x_vret, x_call, x_callv, x_calli, x_oinit, x_mmax, x_mmin, x_mabs, x_mmaxL, x_mminL, x_mabsL, lg_cmp_ge, lg_cmp_le, lg_cmp_gt, lg_cmp_lt, lg_cmp_eq, xlk, xs1, xs2, lv_args, Value.category, List.filter_cons, List.filter_nil, Nat.reduceAdd, Nat.reduceBEq, Nat.reduceEqDiff, Nat.reduceSub, Nat.sub_zero, beq_self_eq_true, Bool.not_true, Bool.not_false, Bool.and_true, Bool.and_false, Bool.true_and, Bool.false_and, reduceIte, reduceCtorEq, Bool.false_eq_true, Nat.one_ne_zero, Nat.zero_ne_one, Nat.zero_add, Option.toList_some, Option.toList_none, List.nil_append, List.cons_append, List.take_succ_cons, List.take_zero, List.take_nil, List.drop_succ_cons, List.drop_zero, List.length_cons, List.length_nil, List.reverse_cons, List.reverse_nil, List.head?_cons, List.map_cons, List.map_nil, List.sum_cons, List.sum_nil, true_and, and_true, List.getElem?_cons_zero, List.getElem?_cons_succ, Prod.eta, x_get, x_put, x_iald, x_iast, x_bald, x_bast, x_lald, x_last, x_alen, xup_s, xup_a1, xup_1a, xup_uu, nr_i, nr_l, nr_o, nr_a, ft_i, ft_l, ft_o, ft_a, Nat.reduceLT, i_cl0, i_cl1, i_n1, i_m1, List.set_cons_zero, List.set_cons_succ, Nat.reduceLeDiff, Nat.le_refl, Nat.zero_le, Nat.add_zero, b_X12_shift_26, cn_X12_shift1, r.1, r.2.1, ck, g1, c1, upd_nI]
      refine ⟨fun q => absurd q (nI_pos (by omega)), fun _ => ⟨vp_in_nI (by omega) (by decide), vp_in_nI (by omega) (by decide), ?_⟩⟩
      refine xInvL.mk k (t, w, ρ, nI k - 1) (by omega) ⟨rfl, rfl, rfl, rfl, trivial⟩ ⟨_, n, e, r.wr (r.2.2.2 k), hn, rfl, by omega, hnw, hρ, fun j hj => ?_, fun j h1 h2 => ?_, he, hm, fun h' o' r' => hQ h' (xoff_tr o' off_wr) r'⟩
      · rw [va_un (by omega)]; exact ex j (by omega)
      · rcases Nat.lt_or_ge k j with c | c
        · rw [va_un (by omega)]; exact hw j (by omega) h2
        · rw [show j = k by omega, Nat.add_comm w k, va_us]; exact ex k (by omega)
  refine xM_of (fun Q => b_X12_shift_0 Q (xInv cn_X12_shift1 (I_X12_shift1 Q)) (xInv cn_X12_shift2 (I_X12_shift2 Q))) RX12 false (fun Q => s_X12_shift_0 G l Q _ _ (L1 Q) (L2 Q _ (L1 Q))) (by decide) rfl (by decide) ?_
  rintro av S Q ⟨t, u, s, rfl, hs, ⟨x, n, r, rfl, z0⟩, hm, hQ⟩
  refine ⟨Nat.le_of_ble_eq_true rfl, ?_⟩
  have n2 := r.2.2.1
  have en0 : nI n = 0 ↔ n = 0 := nI_eq (b := 0) (by omega) (by decide)
  have e1 : nI s / 16 = nI (s / 16) := pk_div (d := 16) (by omega) (by decide) (by decide)
  have e2 : nI s - nI (s / 16) * 16 = nI (s % 16) := by rw [← e1]; exact pk_rem (d := 16) (by omega) (by decide) (by decide)
  simp only [x_c, x_iload, x_lload, x_aload, x_istore, x_lstore, x_astore, x_iinc, x_iadd, x_isub, x_imul, x_iand, x_ior, x_ixor, x_ladd, x_lsub, x_lmul, x_land, x_lor, x_lxor, x_idiv, x_irem, x_ldiv, x_lrem, x_ineg, x_lneg, x_ishl, x_ishr, x_iushr, x_lshl, x_lshr, x_lushr, x_i2l, x_l2i, x_i2b, x_i2c, x_lcmp, x_if_eq, x_if_ne, x_if_lt, x_if_ge, x_if_gt, x_if_le, x_icmp_eq, x_icmp_ne, x_icmp_lt, x_icmp_ge, x_icmp_gt, x_icmp_le, x_dup, x_pop, x_dup_x1, x_dup2, x_iret, x_zret, x_lret, x_aret, x_vret, x_call, x_callv, x_calli, x_oinit, x_mmax, x_mmin, x_mabs, x_mmaxL, x_mminL, x_mabsL, lg_cmp_ge, lg_cmp_le, lg_cmp_gt, lg_cmp_lt, lg_cmp_eq, xlk, xs1, xs2, lv_args, Value.category, List.filter_cons, List.filter_nil, Nat.reduceAdd, Nat.reduceBEq, Nat.reduceEqDiff, Nat.reduceSub, Nat.sub_zero, beq_self_eq_true, Bool.not_true, Bool.not_false, Bool.and_true, Bool.and_false, Bool.true_and, Bool.false_and, reduceIte, reduceCtorEq, Bool.false_eq_true, Nat.one_ne_zero, Nat.zero_ne_one, Nat.zero_add, Option.toList_some, Option.toList_none, List.nil_append, List.cons_append, List.take_succ_cons, List.take_zero, List.take_nil, List.drop_succ_cons, List.drop_zero, List.length_cons, List.length_nil, List.reverse_cons, List.reverse_nil, List.head?_cons, List.map_cons, List.map_nil, List.sum_cons, List.sum_nil, true_and, and_true, List.getElem?_cons_zero, List.getElem?_cons_succ, Prod.eta, x_get, x_put, x_iald, x_iast, x_bald, x_bast, x_lald, x_last, x_alen, xup_s, xup_a1, xup_1a, xup_uu, nr_i, nr_l, nr_o, nr_a, ft_i, ft_l, ft_o, ft_a, Nat.reduceLT, i_cl0, i_cl1, i_n1, i_m1, List.set_cons_zero, List.set_cons_succ, Nat.reduceLeDiff, Nat.le_refl, Nat.zero_le, Nat.add_zero, b_X12_shift_0, r.1, en0, e1, e2]
  refine ⟨by decide, by decide, fun q => ?_, fun q => ?_⟩
  · have h1 := sd_top (B := 65536) (by omega) (z0 (by omega))
    have hlt : n + s / 16 ≤ 640 := by
      have h2 : 65536 ^ (n - 1) * 2 ^ s ≤ sd 65536 x n * 2 ^ s := Nat.mul_le_mul_right _ h1
      rw [show (65536 : Nat) ^ (n - 1) = 2 ^ (16 * (n - 1)) by rw [Nat.pow_mul], ← Nat.pow_add] at h2
      rw [show (65536 : Nat) ^ 640 = 2 ^ (16 * 640) by rw [Nat.pow_mul]] at hm
      have h3 : 16 * (n - 1) + s < 16 * 640 := (Nat.pow_lt_pow_iff_right (a := 2) (by decide)).mp (Nat.lt_of_le_of_lt h2 hm)
      omega
    have e3 : (65536 ^ (s / 16) * sd 65536 x n) * 2 ^ (s % 16) = sd 65536 x n * 2 ^ s := by
      rw [Nat.mul_comm (65536 ^ (s / 16)), Nat.mul_assoc, show (65536 : Nat) ^ (s / 16) = 2 ^ (16 * (s / 16)) by rw [Nat.pow_mul], ← Nat.pow_add, show 16 * (s / 16) + s % 16 = s by omega]
    refine xInv.mk n (t, s / 16, s % 16, nI n - 1) ⟨rfl, rfl, rfl, rfl, trivial⟩ ⟨x, n, x, r, by omega, rfl, Nat.le_refl _, hlt, by omega, fun _ _ => rfl, fun j h1 h2 => by omega, z0 (by omega), by rw [e3]; exact hm, fun h' o' r' => hQ h' o' (by rw [← e3]; exact r')⟩
  · subst q
    rw [show sd 65536 x 0 = 0 from rfl, Nat.zero_mul] at hQ
    exact hQ _ xoff_rf ⟨x, 0, r, rfl, z0⟩
