/-! IntervalTapeModel$Num (X13) at r: p at r + 1, q at r + 3 -/
def bI (b : Bool) : Int32 := if b then 1 else 0
def iZ (z : Int) : Int32 := Int32.ofInt z
theorem iZ_toInt {z : Int} (h1 : -2147483648 ≤ z) (h2 : z < 2147483648) : (iZ z).toInt = z := by
  show (Int32.ofInt z).toInt = z
  rw [Int32.toInt_ofInt]
  have e : (Int32.size : Int) = 4294967296 := rfl
  exact Int.bmod_eq_of_le (by rw [e]; omega) (by rw [e]; omega)
theorem iZ_add (a b : Int) : iZ a + iZ b = iZ (a + b) := (Int32.ofInt_add a b).symm
theorem iZ_sub (a b : Int) : iZ a - iZ b = iZ (a - b) := (Int32.ofInt_sub a b).symm
theorem iZ_nat (n : Nat) : iZ n = nI n := rfl
theorem nr_z (b : Bool) : narrow .boolean (.int (bI b)) = .int (bI b) := by cases b <;> rfl
theorem ft_z (b : Bool) : fits .boolean (.int (bI b)) = true := by cases b <;> rfl
theorem bI_1 : (1 : Int32) = bI true := rfl
theorem bI_0 : (0 : Int32) = bI false := rfl
theorem bI_inj {a b : Bool} : bI a = bI b ↔ a = b := by cases a <;> cases b <;> decide
def nuR (h : xH) (r : Nat) (b : Bool) (p q : Nat) (e : Int) : Prop := h r = some (.inr (12, [.int (bI b), .ref (r + 1), .ref (r + 3), .int (iZ e)])) ∧ mV h (r + 1) p ∧ mV h (r + 3) q ∧ -1000000 ≤ e ∧ e ≤ 1000000
theorem nuR.off {h h' : xH} {r lo hi : Nat} {b : Bool} {p q : Nat} {e : Int} (n : nuR h r b p q e) (o : xoff h' h lo hi) (d : r + 5 ≤ lo ∨ hi ≤ r) : nuR h' r b p q e := ⟨(o r (by omega)).trans n.1, n.2.1.off o (by omega), n.2.2.1.off o (by omega), n.2.2.2⟩
theorem mV.R {h : xH} {a v : Nat} (m : mV h a v) : ∃ x n, mR h a x n := by
  obtain ⟨x, n, r, -⟩ := m
  exact ⟨x, n, r⟩
theorem mV.obj {h : xH} {a v : Nat} (m : mV h a v) : ∃ fs, h a = some (.inr (11, fs)) := by
  obtain ⟨x, n, r, -⟩ := m
  exact ⟨_, r.1⟩
/-- the size of a Big is 0 just for 0 -/
theorem mV.size {h : xH} {a v : Nat} (m : mV h a v) : ∃ n : Nat, n ≤ 640 ∧ h a = some (.inr (11, [.ref (a + 1), .int (nI n)])) ∧ (nI n = 0 ↔ v = 0) := by
  obtain ⟨x, n, r, hv, hz⟩ := m
  have n2 := r.2.2.1
  refine ⟨n, n2, r.1, ?_⟩
  rw [show nI n = 0 ↔ n = 0 from nI_eq (b := 0) (by omega) (by decide)]
  constructor
  · intro e; subst e; exact hv.symm
  · intro e
    rcases Nat.eq_zero_or_pos n with q | q
    · exact q
    · have := sd_top (B := 65536) q (hz q)
      have h1 : 0 < 65536 ^ (n - 1) := Nat.pow_pos (by decide)
      omega
theorem dX13_sign_0 : decode cX13_sign 0 = .ok (.aload_n 0, 1) := by decide +kernel
theorem dX13_sign_1 : decode cX13_sign 1 = .ok (.getfield 10, 3) := by decide +kernel
theorem dX13_sign_4 : decode cX13_sign 4 = .ok (.getfield 35, 3) := by decide +kernel
theorem dX13_sign_7 : decode cX13_sign 7 = .ok (.ifCond .ne 7, 3) := by decide +kernel
theorem dX13_sign_10 : decode cX13_sign 10 = .ok (.iconst 0, 1) := by decide +kernel
theorem dX13_sign_11 : decode cX13_sign 11 = .ok (.goto 15, 3) := by decide +kernel
theorem dX13_sign_14 : decode cX13_sign 14 = .ok (.aload_n 0, 1) := by decide +kernel
theorem dX13_sign_15 : decode cX13_sign 15 = .ok (.getfield 19, 3) := by decide +kernel
theorem dX13_sign_18 : decode cX13_sign 18 = .ok (.ifCond .eq 7, 3) := by decide +kernel
theorem dX13_sign_21 : decode cX13_sign 21 = .ok (.iconst (-1), 1) := by decide +kernel
theorem dX13_sign_22 : decode cX13_sign 22 = .ok (.goto 4, 3) := by decide +kernel
theorem dX13_sign_25 : decode cX13_sign 25 = .ok (.iconst 1, 1) := by decide +kernel
theorem dX13_sign_26 : decode cX13_sign 26 = .ok (.ireturn, 1) := by decide +kernel
abbrev r_X13_sign : Room := { frames := 0, cells := 0, slots := 0, locals := 0 }
abbrev m_X13_sign : xMd := (cX13_sign, RX13, 1, (some FieldType.int), false, r_X13_sign)
def b_X13_sign_26 (Q : xQ) : xK := x_iret Q
def b_X13_sign_0 (Q : xQ) : xK := x_aload 0 <| x_get 12 1 <| x_get 11 1 <| x_if_ne (x_aload 0 <| x_get 12 0 <| x_if_eq (x_c (.int 1) <| (b_X13_sign_26 Q)) <| x_c (.int (-1)) <| (b_X13_sign_26 Q)) <| x_c (.int 0) <| (b_X13_sign_26 Q)
theorem s_X13_sign_26 (G : xG) (l : Launch) (Q : xQ) : xW G l m_X13_sign xX0 (xPm G Q r_X13_sign) 26 (b_X13_sign_26 Q) := xo_iret (pc := 26) rfl dX13_sign_26
theorem s_X13_sign_0 (G : xG) (l : Launch) (Q : xQ) : xW G l m_X13_sign xX0 (xPm G Q r_X13_sign) 0 (b_X13_sign_0 Q) := xo_aload_n (pc := 0) (i := 0) dX13_sign_0 rfl <| xo_get (pc := 1) (ci := 12) (i := 1) rfl ok12 (by decide) dX13_sign_1 kw1186 <| xo_getN (pc := 4) (ci := 11) (i := 1) rfl ok11 (by decide) dX13_sign_4 kw1169 <| xo_if_ne (pc := 7) (tgt := 14) dX13_sign_7 (by decide) (xo_aload_n (pc := 14) (i := 0) dX13_sign_14 rfl <| xo_get (pc := 15) (ci := 12) (i := 0) rfl ok12 (by decide) dX13_sign_15 kw1184 <| xo_if_eq (pc := 18) (tgt := 25) dX13_sign_18 (by decide) (xo_iconst (pc := 25) dX13_sign_25 (by decide) <| (s_X13_sign_26 G l Q)) <| xo_iconst (pc := 21) dX13_sign_21 (by decide) <| xo_goto (pc := 22) (tgt := 26) dX13_sign_22 (by decide) <| (s_X13_sign_26 G l Q)) <| xo_iconst (pc := 10) dX13_sign_10 (by decide) <| xo_goto (pc := 11) (tgt := 26) dX13_sign_11 (by decide) <| (s_X13_sign_26 G l Q)

def C_X13_sign : xC := fun av S Q => ∃ (r : Nat) (b : Bool) (p q : Nat) (e : Int), av = [.ref r] ∧ nuR S.1 r b p q e ∧ Q (some (.int (if p = 0 then 0 else if b then -1 else 1))) S
theorem cM_X13_sign (G : xG) (l : Launch) : xM G l yX13_sign cX13_sign 1 (some FieldType.int) r_X13_sign C_X13_sign := by
  refine xM_of (fun Q => b_X13_sign_0 Q) RX13 false (s_X13_sign_0 G l) (by decide) rfl (by decide) ?_
  rintro av S Q ⟨r, b, p, q, e, rfl, ⟨h1, hp, hq, he⟩, hQ⟩
  refine ⟨Nat.le_of_ble_eq_true rfl, ?_⟩
  obtain ⟨n, -, hn, hz⟩ := hp.size
  simp only [x_c, x_iload, x_lload, x_aload, x_istore, x_lstore, x_astore, x_iinc, x_iadd, x_isub, x_imul, x_iand, x_ior, x_ixor, x_ladd, x_lsub, x_lmul, x_land, x_lor, x_lxor, x_idiv, x_irem, x_ldiv, x_lrem, x_ineg, x_lneg, x_ishl, x_ishr, x_iushr, x_lshl, x_lshr, x_lushr, x_i2l, x_l2i, x_i2b, x_i2c, x_lcmp, x_if_eq, x_if_ne, x_if_lt, x_if_ge, x_if_gt, x_if_le, x_icmp_eq, x_icmp_ne, x_icmp_lt, x_icmp_ge, x_icmp_gt, x_icmp_le, x_dup, x_pop, x_dup_x1, x_dup2, x_iret, x_zret, x_lret, x_aret, x_vret, x_call, x_callv, x_calli, x_oinit, x_mmax, x_mmin, x_mabs, x_mmaxL, x_mminL, x_mabsL, lg_cmp_ge, lg_cmp_le, lg_cmp_gt, lg_cmp_lt, lg_cmp_eq, xlk, xs1, xs2, lv_args, Value.category, List.filter_cons, List.filter_nil, Nat.reduceAdd, Nat.reduceBEq, Nat.reduceEqDiff, Nat.reduceSub, Nat.sub_zero, beq_self_eq_true, Bool.not_true, Bool.not_false, Bool.and_true, Bool.and_false, Bool.true_and, Bool.false_and, reduceIte, reduceCtorEq, Bool.false_eq_true, Nat.one_ne_zero, Nat.zero_ne_one, Nat.zero_add, Option.toList_some, Option.toList_none, List.nil_append, List.cons_append, List.take_succ_cons, List.take_zero, List.take_nil, List.drop_succ_cons, List.drop_zero, List.length_cons, List.length_nil, List.reverse_cons, List.reverse_nil, List.head?_cons, List.map_cons, List.map_nil, List.sum_cons, List.sum_nil, true_and, and_true, List.getElem?_cons_zero, List.getElem?_cons_succ, Prod.eta, x_get, x_put, x_iald, x_iast, x_bald, x_bast, x_lald, x_last, x_alen, xup_s, xup_a1, xup_1a, xup_uu, nr_i, nr_l, nr_o, nr_a, ft_i, ft_l, ft_o, ft_a, Nat.reduceLT, i_cl0, i_cl1, i_n1, i_m1, List.set_cons_zero, List.set_cons_succ, Nat.reduceLeDiff, Nat.le_refl, Nat.zero_le, Nat.add_zero, b_X13_sign_0, b_X13_sign_26, h1, hn, hz]
  refine ⟨fun z => ⟨fun w => ?_, fun w => ?_⟩, fun z => ?_⟩
  · rw [if_neg z, show b = false from bI_inj.mp (w.trans bI_0)] at hQ; exact hQ
  · rw [if_neg z, show b = true by cases b with | true => rfl | false => exact absurd rfl w] at hQ; exact hQ
  · rw [if_pos z] at hQ; exact hQ
theorem dX13_copy_0 : decode cX13_copy 0 = .ok (.aload_n 0, 1) := by decide +kernel
theorem dX13_copy_1 : decode cX13_copy 1 = .ok (.aload_n 1, 1) := by decide +kernel
theorem dX13_copy_2 : decode cX13_copy 2 = .ok (.getfield 19, 3) := by decide +kernel
theorem dX13_copy_5 : decode cX13_copy 5 = .ok (.putfield 19, 3) := by decide +kernel
theorem dX13_copy_8 : decode cX13_copy 8 = .ok (.aload_n 0, 1) := by decide +kernel
theorem dX13_copy_9 : decode cX13_copy 9 = .ok (.getfield 10, 3) := by decide +kernel
theorem dX13_copy_12 : decode cX13_copy 12 = .ok (.aload_n 1, 1) := by decide +kernel
theorem dX13_copy_13 : decode cX13_copy 13 = .ok (.getfield 10, 3) := by decide +kernel
theorem dX13_copy_16 : decode cX13_copy 16 = .ok (.invokevirtual 31, 3) := by decide +kernel
theorem dX13_copy_19 : decode cX13_copy 19 = .ok (.aload_n 0, 1) := by decide +kernel
theorem dX13_copy_20 : decode cX13_copy 20 = .ok (.getfield 16, 3) := by decide +kernel
theorem dX13_copy_23 : decode cX13_copy 23 = .ok (.aload_n 1, 1) := by decide +kernel
theorem dX13_copy_24 : decode cX13_copy 24 = .ok (.getfield 16, 3) := by decide +kernel
theorem dX13_copy_27 : decode cX13_copy 27 = .ok (.invokevirtual 31, 3) := by decide +kernel
theorem dX13_copy_30 : decode cX13_copy 30 = .ok (.aload_n 0, 1) := by decide +kernel
theorem dX13_copy_31 : decode cX13_copy 31 = .ok (.aload_n 1, 1) := by decide +kernel
theorem dX13_copy_32 : decode cX13_copy 32 = .ok (.getfield 27, 3) := by decide +kernel
theorem dX13_copy_35 : decode cX13_copy 35 = .ok (.putfield 27, 3) := by decide +kernel
theorem dX13_copy_38 : decode cX13_copy 38 = .ok (.return_, 1) := by decide +kernel
abbrev r_X13_copy : Room := { frames := 1, cells := 0, slots := 0, locals := 22 }
abbrev m_X13_copy : xMd := (cX13_copy, RX13, 2, none, false, r_X13_copy)
def b_X13_copy_0 (Q : xQ) : xK := x_aload 0 <| x_aload 1 <| x_get 12 0 <| x_put 12 0 .boolean <| x_aload 0 <| x_get 12 1 <| x_aload 1 <| x_get 12 1 <| x_callv 11 C_X12_copy 2 0 0 <| x_aload 0 <| x_get 12 2 <| x_aload 1 <| x_get 12 2 <| x_callv 11 C_X12_copy 2 0 0 <| x_aload 0 <| x_aload 1 <| x_get 12 3 <| x_put 12 3 .int <| x_vret Q
theorem s_X13_copy_0 (G : xG) (l : Launch) (Q : xQ) : xW G l m_X13_copy xX0 (xPm G Q r_X13_copy) 0 (b_X13_copy_0 Q) := xo_aload_n (pc := 0) (i := 0) dX13_copy_0 rfl <| xo_aload_n (pc := 1) (i := 1) dX13_copy_1 rfl <| xo_get (pc := 2) (ci := 12) (i := 0) rfl ok12 (by decide) dX13_copy_2 kw1184 <| xo_put (pc := 5) (ci := 12) (i := 0) rfl ok12 (by decide) rfl rfl dX13_copy_5 kw1184 <| xo_aload_n (pc := 8) (i := 0) dX13_copy_8 rfl <| xo_get (pc := 9) (ci := 12) (i := 1) rfl ok12 (by decide) dX13_copy_9 kw1186 <| xo_aload_n (pc := 12) (i := 1) dX13_copy_12 rfl <| xo_get (pc := 13) (ci := 12) (i := 1) rfl ok12 (by decide) dX13_copy_13 kw1186 <| xo_callV (pc := 16) (np := 1) (ci := 11) rfl (cM_X12_copy G l) dX13_copy_16 kw1438 kw1470 kw1436 kw1437 kw14 (by decide +kernel) (by decide) <| xo_aload_n (pc := 19) (i := 0) dX13_copy_19 rfl <| xo_get (pc := 20) (ci := 12) (i := 2) rfl ok12 (by decide) dX13_copy_20 kw1189 <| xo_aload_n (pc := 23) (i := 1) dX13_copy_23 rfl <| xo_get (pc := 24) (ci := 12) (i := 2) rfl ok12 (by decide) dX13_copy_24 kw1189 <| xo_callV (pc := 27) (np := 1) (ci := 11) rfl (cM_X12_copy G l) dX13_copy_27 kw1438 kw1470 kw1436 kw1437 kw14 (by decide +kernel) (by decide) <| xo_aload_n (pc := 30) (i := 0) dX13_copy_30 rfl <| xo_aload_n (pc := 31) (i := 1) dX13_copy_31 rfl <| xo_get (pc := 32) (ci := 12) (i := 3) rfl ok12 (by decide) dX13_copy_32 kw1191 <| xo_put (pc := 35) (ci := 12) (i := 3) rfl ok12 (by decide) rfl rfl dX13_copy_35 kw1191 <| xo_vret (pc := 38) rfl dX13_copy_38

def C_X13_copy : xC := fun av S Q => ∃ (r o : Nat) (b c : Bool) (p q p' q' : Nat) (e e' : Int), av = [.ref r, .ref o] ∧ (r + 5 ≤ o ∨ o + 5 ≤ r) ∧ nuR S.1 r c p' q' e' ∧ nuR S.1 o b p q e ∧ ∀ h', xoff h' S.1 r (r + 5) → nuR h' r b p q e → Q none (h', S.2)
theorem cM_X13_copy (G : xG) (l : Launch) : xM G l yX13_copy cX13_copy 2 none r_X13_copy C_X13_copy := by
  refine xM_of (fun Q => b_X13_copy_0 Q) RX13 false (s_X13_copy_0 G l) (by decide) rfl (by decide) ?_
  rintro av S Q ⟨r, o, b, c, p, q, p', q', e, e', rfl, hd, ⟨h1, hp', hq', he'⟩, ⟨g1, gp, gq, ge⟩, hQ⟩
  refine ⟨Nat.le_of_ble_eq_true rfl, ?_⟩
  have n1 : xup S.1 r (.inr (12, [.int (bI b), .ref (r + 1), .ref (r + 3), .int (iZ e')])) o = S.1 o := xup_n (by omega)
  simp only [x_c, x_iload, x_lload, x_aload, x_istore, x_lstore, x_astore, x_iinc, x_iadd, x_isub, x_imul, x_iand, x_ior, x_ixor, x_ladd, x_lsub, x_lmul, x_land, x_lor, x_lxor, x_idiv, x_irem, x_ldiv, x_lrem, x_ineg, x_lneg, x_ishl, x_ishr, x_iushr, x_lshl, x_lshr, x_lushr, x_i2l, x_l2i, x_i2b, x_i2c, x_lcmp, x_if_eq, x_if_ne, x_if_lt, x_if_ge, x_if_gt, x_if_le, x_icmp_eq, x_icmp_ne, x_icmp_lt, x_icmp_ge, x_icmp_gt, x_icmp_le, x_dup, x_pop, x_dup_x1, x_dup2, x_iret, x_zret, x_lret, x_aret, x_vret, x_call, x_callv, x_calli, x_oinit, x_mmax, x_mmin, x_mabs, x_mmaxL, x_mminL, x_mabsL, lg_cmp_ge, lg_cmp_le, lg_cmp_gt, lg_cmp_lt, lg_cmp_eq, xlk, xs1, xs2, lv_args, Value.category, List.filter_cons, List.filter_nil, Nat.reduceAdd, Nat.reduceBEq, Nat.reduceEqDiff, Nat.reduceSub, Nat.sub_zero, beq_self_eq_true, Bool.not_true, Bool.not_false, Bool.and_true, Bool.and_false, Bool.true_and, Bool.false_and, reduceIte, reduceCtorEq, Bool.false_eq_true, Nat.one_ne_zero, Nat.zero_ne_one, Nat.zero_add, Option.toList_some, Option.toList_none, List.nil_append, List.cons_append, List.take_succ_cons, List.take_zero, List.take_nil, List.drop_succ_cons, List.drop_zero, List.length_cons, List.length_nil, List.reverse_cons, List.reverse_nil, List.head?_cons, List.map_cons, List.map_nil, List.sum_cons, List.sum_nil, true_and, and_true, List.getElem?_cons_zero, List.getElem?_cons_succ, Prod.eta, x_get, x_put, x_iald, x_iast, x_bald, x_bast, x_lald, x_last, x_alen, xup_s, xup_a1, xup_1a, xup_uu, nr_i, nr_l, nr_o, nr_a, ft_i, ft_l, ft_o, ft_a, Nat.reduceLT, i_cl0, i_cl1, i_n1, i_m1, List.set_cons_zero, List.set_cons_succ, Nat.reduceLeDiff, Nat.le_refl, Nat.zero_le, Nat.add_zero, b_X13_copy_0, h1, g1, nr_z, ft_z, n1]
  have oA : xoff (xup S.1 r (.inr (12, [.int (bI b), .ref (r + 1), .ref (r + 3), .int (iZ e')]))) S.1 r (r + 1) := xoff_up xoff_rf (by omega) (by omega)
  generalize hA : xup S.1 r (.inr (12, [.int (bI b), .ref (r + 1), .ref (r + 3), .int (iZ e')])) = hh at *
  have hr : hh r = some (.inr (12, [.int (bI b), .ref (r + 1), .ref (r + 3), .int (iZ e')])) := by rw [← hA, xup_s]
  have p1 := hp'.off oA (by omega)
  have q1 := hq'.off oA (by omega)
  have p2 := gp.off oA (by omega)
  have q2 := gq.off oA (by omega)
  have o2 := (oA o (by omega)).trans g1
  obtain ⟨fs1, b1⟩ := p1.obj
  refine ⟨⟨_, _, rfl, b1⟩, r + 1, o + 1, p, rfl, by omega, p1.R, p2, fun h2 oB pB => ?_⟩
  have hr2 := (oB r (by omega)).trans hr
  have q1 := q1.off oB (by omega)
  have q2 := q2.off oB (by omega)
  have o2 := (oB o (by omega)).trans o2
  simp only [x_c, x_iload, x_lload, x_aload, x_istore, x_lstore, x_astore, x_iinc, x_iadd, x_isub, x_imul, x_iand, x_ior, x_ixor, x_ladd, x_lsub, x_lmul, x_land, x_lor, x_lxor, x_idiv, x_irem, x_ldiv, x_lrem, x_ineg, x_lneg, x_ishl, x_ishr, x_iushr, x_lshl, x_lshr, x_lushr, x_i2l, x_l2i, x_i2b, x_i2c, x_lcmp, x_if_eq, x_if_ne, x_if_lt, x_if_ge, x_if_gt, x_if_le, x_icmp_eq, x_icmp_ne, x_icmp_lt, x_icmp_ge, x_icmp_gt, x_icmp_le, x_dup, x_pop, x_dup_x1, x_dup2, x_iret, x_zret, x_lret, x_aret, x_vret, x_call, x_callv, x_calli, x_oinit, x_mmax, x_mmin, x_mabs, x_mmaxL, x_mminL, x_mabsL, lg_cmp_ge, lg_cmp_le, lg_cmp_gt, lg_cmp_lt, lg_cmp_eq, xlk, xs1, xs2, lv_args, Value.category, List.filter_cons, List.filter_nil, Nat.reduceAdd, Nat.reduceBEq, Nat.reduceEqDiff, Nat.reduceSub, Nat.sub_zero, beq_self_eq_true, Bool.not_true, Bool.not_false, Bool.and_true, Bool.and_false, Bool.true_and, Bool.false_and, reduceIte, reduceCtorEq, Bool.false_eq_true, Nat.one_ne_zero, Nat.zero_ne_one, Nat.zero_add, Option.toList_some, Option.toList_none, List.nil_append, List.cons_append, List.take_succ_cons, List.take_zero, List.take_nil, List.drop_succ_cons, List.drop_zero, List.length_cons, List.length_nil, List.reverse_cons, List.reverse_nil, List.head?_cons, List.map_cons, List.map_nil, List.sum_cons, List.sum_nil, true_and, and_true, List.getElem?_cons_zero, List.getElem?_cons_succ, Prod.eta, x_get, x_put, x_iald, x_iast, x_bald, x_bast, x_lald, x_last, x_alen, xup_s, xup_a1, xup_1a, xup_uu, nr_i, nr_l, nr_o, nr_a, ft_i, ft_l, ft_o, ft_a, Nat.reduceLT, i_cl0, i_cl1, i_n1, i_m1, List.set_cons_zero, List.set_cons_succ, Nat.reduceLeDiff, Nat.le_refl, Nat.zero_le, Nat.add_zero, hr2, o2]
  obtain ⟨fs1, b1⟩ := q1.obj
  refine ⟨⟨_, _, rfl, b1⟩, r + 3, o + 3, q, rfl, by omega, q1.R, q2, fun h3 oC qC => ?_⟩
  have hr3 := (oC r (by omega)).trans hr2
  have pC := pB.off oC (by omega)
  have o2 := (oC o (by omega)).trans o2
  simp only [x_c, x_iload, x_lload, x_aload, x_istore, x_lstore, x_astore, x_iinc, x_iadd, x_isub, x_imul, x_iand, x_ior, x_ixor, x_ladd, x_lsub, x_lmul, x_land, x_lor, x_lxor, x_idiv, x_irem, x_ldiv, x_lrem, x_ineg, x_lneg, x_ishl, x_ishr, x_iushr, x_lshl, x_lshr, x_lushr, x_i2l, x_l2i, x_i2b, x_i2c, x_lcmp, x_if_eq, x_if_ne, x_if_lt, x_if_ge, x_if_gt, x_if_le, x_icmp_eq, x_icmp_ne, x_icmp_lt, x_icmp_ge, x_icmp_gt, x_icmp_le, x_dup, x_pop, x_dup_x1, x_dup2, x_iret, x_zret, x_lret, x_aret, x_vret, x_call, x_callv, x_calli, x_oinit, x_mmax, x_mmin, x_mabs, x_mmaxL, x_mminL, x_mabsL, lg_cmp_ge, lg_cmp_le, lg_cmp_gt, lg_cmp_lt, lg_cmp_eq, xlk, xs1, xs2, lv_args, Value.category, List.filter_cons, List.filter_nil, Nat.reduceAdd, Nat.reduceBEq, Nat.reduceEqDiff, Nat.reduceSub, Nat.sub_zero, beq_self_eq_true, Bool.not_true, Bool.not_false, Bool.and_true, Bool.and_false, Bool.true_and, Bool.false_and, reduceIte, reduceCtorEq, Bool.false_eq_true, Nat.one_ne_zero, Nat.zero_ne_one, Nat.zero_add, Option.toList_some, Option.toList_none, List.nil_append, List.cons_append, List.take_succ_cons, List.take_zero, List.take_nil, List.drop_succ_cons, List.drop_zero, List.length_cons, List.length_nil, List.reverse_cons, List.reverse_nil, List.head?_cons, List.map_cons, List.map_nil, List.sum_cons, List.sum_nil, true_and, and_true, List.getElem?_cons_zero, List.getElem?_cons_succ, Prod.eta, x_get, x_put, x_iald, x_iast, x_bald, x_bast, x_lald, x_last, x_alen, xup_s, xup_a1, xup_1a, xup_uu, nr_i, nr_l, nr_o, nr_a, ft_i, ft_l, ft_o, ft_a, Nat.reduceLT, i_cl0, i_cl1, i_n1, i_m1, List.set_cons_zero, List.set_cons_succ, Nat.reduceLeDiff, Nat.le_refl, Nat.zero_le, Nat.add_zero, hr3, o2]
  refine hQ _ (xoff_up (xoff_tr (xoff_wd oC (by omega) (by omega)) (xoff_tr (xoff_wd oB (by omega) (by omega)) (xoff_wd oA (by omega) (by omega)))) (by omega) (by omega)) ⟨xup_s, pC.off (xoff_up xoff_rf (Nat.le_refl r) (Nat.lt_succ_self r)) (by omega), qC.off (xoff_up xoff_rf (Nat.le_refl r) (Nat.lt_succ_self r)) (by omega), ge⟩
