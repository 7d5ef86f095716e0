/-! the reference's cells: a cell is (mark, order of low, order of high); an ill one is (0, 0, 0) -/
abbrev vC : Type := Nat × Int × Int
def rLo (c : vC) : Int := if c.1 = 0 then 9221120237041090560 else c.2.1
def rHi (c : vC) : Int := if c.1 = 0 then 9221120237041090560 else c.2.2
def eB (c : vC) : Bool := decide (c.1 ≠ 0 ∧ c.2.1 = 9218868437227405312)
def cOk (c : vC) : Prop := c.1 ≤ 4 ∧ (c.1 = 0 ∧ c.2.1 = 0 ∧ c.2.2 = 0 ∨ c.1 ≠ 0 ∧ (c.2.1 = 9218868437227405312 ∧ c.2.2 = -9218868437227405312 ∨ -9218868437227405312 ≤ c.2.1 ∧ c.2.1 < 9218868437227405312 ∧ -9218868437227405312 < c.2.2 ∧ c.2.2 ≤ 9218868437227405312 ∧ c.2.1 ≤ c.2.2))
theorem cOk.lo {c : vC} (h : cOk c) : oF (rLo c) := by
  unfold rLo oF
  obtain ⟨-, h⟩ := h
  split <;> omega
theorem cOk.hi {c : vC} (h : cOk c) : oF (rHi c) := by
  unfold rHi oF
  obtain ⟨-, h⟩ := h
  split <;> omega
theorem foB_INF {a : Int} (ha : oF a) : lN (foB a) = 9218868437227405312 ↔ a = 9218868437227405312 := by
  rw [lINF]
  exact foB_eq ha oINF
def fk (h' h : xH) (M : Nat) : Prop := xoff2 h' h M (M + 20) (M + 22) (M + 45)
theorem fr.k {h h' : xH} {M : Nat} (f : fr h' h M) : fk h' h M := fun q a b => f q (by omega) (by omega)
theorem fk.tr {h h' h'' : xH} {M : Nat} (a : fk h'' h' M) (b : fk h' h M) : fk h'' h M := fun q c d => (a q c d).trans (b q c d)
theorem fk.rf {h : xH} {M : Nat} : fk h h M := fun _ _ _ => rfl
def ce (h : xH) (M n : Nat) (cs : Nat → vC) : Prop := ∃ (fl fh : Nat → Int64) (fm : Nat → Int32), h (M + 22) = some (.inl (2, 3000, .inr (.inl fl))) ∧ h (M + 23) = some (.inl (2, 3000, .inr (.inl fh))) ∧ h (M + 24) = some (.inl (0, 3000, .inl fm)) ∧ ∀ i, i < n → fl i = lN (foB (rLo (cs i))) ∧ fh i = lN (foB (rHi (cs i))) ∧ fm i = nI (cs i).1
def ms (h : xH) (M : Nat) (s : Nat → Value) (lo hi : Int) (nn ls : Bool) (n : Nat) (cs : Nat → vC) : Prop := st h M s lo hi nn ls ∧ s 11 = .int (nI n) ∧ n ≤ 3000 ∧ (∀ i, i < n → cOk (cs i)) ∧ ce h M n cs
theorem ms.f {h h' : xH} {M : Nat} {s : Nat → Value} {lo hi lo' hi' : Int} {nn ls nn' ls' : Bool} {n : Nat} {cs : Nat → vC} (w : ms h M s lo hi nn ls n cs) (f : fr h' h M) (w' : st h' M s lo' hi' nn' ls') : ms h' M s lo' hi' nn' ls' n cs := by
  obtain ⟨-, w2, w3, w4, fl, fh, fm, cl, ch, cm, ca⟩ := w
  exact ⟨w', w2, w3, w4, fl, fh, fm, (f _ (by omega) (by omega)).trans cl, (f _ (by omega) (by omega)).trans ch, (f _ (by omega) (by omega)).trans cm, ca⟩
def cB (n : Nat) (c : Int32) : Bool := decide (0 ≤ c.toInt ∧ c.toInt < n)
theorem cB_t {n : Nat} {c : Int32} (h : cB n c = true) (hn : n ≤ 3000) : ∃ i, i < n ∧ c = nI i := by
  have h' : 0 ≤ c.toInt ∧ c.toInt < n := of_decide_eq_true h
  refine ⟨c.toInt.toNat, by omega, ?_⟩
  apply Int32.toInt_inj.mp
  rw [nI_toInt (by omega)]
  omega
theorem dX14_isCell_0 : decode cX14_isCell 0 = .ok (.iload_n 1, 1) := by decide +kernel
theorem dX14_isCell_1 : decode cX14_isCell 1 = .ok (.ifCond .lt 15, 3) := by decide +kernel
theorem dX14_isCell_4 : decode cX14_isCell 4 = .ok (.iload_n 1, 1) := by decide +kernel
theorem dX14_isCell_5 : decode cX14_isCell 5 = .ok (.aload_n 0, 1) := by decide +kernel
theorem dX14_isCell_6 : decode cX14_isCell 6 = .ok (.getfield 163, 3) := by decide +kernel
theorem dX14_isCell_9 : decode cX14_isCell 9 = .ok (.if_icmp .ge 7, 3) := by decide +kernel
theorem dX14_isCell_12 : decode cX14_isCell 12 = .ok (.iconst 1, 1) := by decide +kernel
theorem dX14_isCell_13 : decode cX14_isCell 13 = .ok (.goto 4, 3) := by decide +kernel
theorem dX14_isCell_16 : decode cX14_isCell 16 = .ok (.iconst 0, 1) := by decide +kernel
theorem dX14_isCell_17 : decode cX14_isCell 17 = .ok (.ireturn, 1) := by decide +kernel
abbrev r_X14_isCell : Room := { frames := 0, cells := 0, slots := 0, locals := 0 }
abbrev m_X14_isCell : xMd := (cX14_isCell, RX14, 2, (some FieldType.boolean), false, r_X14_isCell)
def b_X14_isCell_17 (Q : xQ) : xK := x_zret FieldType.boolean Q
def b_X14_isCell_16 (Q : xQ) : xK := x_c (.int 0) <| (b_X14_isCell_17 Q)
def b_X14_isCell_0 (Q : xQ) : xK := x_iload 1 <| x_if_lt ((b_X14_isCell_16 Q)) <| x_iload 1 <| x_aload 0 <| x_get 13 11 <| x_icmp_ge ((b_X14_isCell_16 Q)) <| x_c (.int 1) <| (b_X14_isCell_17 Q)
theorem s_X14_isCell_17 (G : xG) (l : Launch) (Q : xQ) : xW G l m_X14_isCell xX0 (xPm G Q r_X14_isCell) 17 (b_X14_isCell_17 Q) := xo_zret (pc := 17) rfl dX14_isCell_17
theorem s_X14_isCell_16 (G : xG) (l : Launch) (Q : xQ) : xW G l m_X14_isCell xX0 (xPm G Q r_X14_isCell) 16 (b_X14_isCell_16 Q) := xo_iconst (pc := 16) dX14_isCell_16 (by decide) <| (s_X14_isCell_17 G l Q)
theorem s_X14_isCell_0 (G : xG) (l : Launch) (Q : xQ) : xW G l m_X14_isCell xX0 (xPm G Q r_X14_isCell) 0 (b_X14_isCell_0 Q) := xo_iload_n (pc := 0) (i := 1) dX14_isCell_0 rfl <| xo_if_lt (pc := 1) (tgt := 16) dX14_isCell_1 (by decide) ((s_X14_isCell_16 G l Q)) <| xo_iload_n (pc := 4) (i := 1) dX14_isCell_4 rfl <| xo_aload_n (pc := 5) (i := 0) dX14_isCell_5 rfl <| xo_get (pc := 6) (ci := 13) (i := 11) rfl ok13 (by decide) dX14_isCell_6 kw1212 <| xo_icmp_ge (pc := 9) (tgt := 16) dX14_isCell_9 (by decide) ((s_X14_isCell_16 G l Q)) <| xo_iconst (pc := 12) dX14_isCell_12 (by decide) <| xo_goto (pc := 13) (tgt := 17) dX14_isCell_13 (by decide) <| (s_X14_isCell_17 G l Q)

def C_X14_isCell : xC := fun av S Q => ∃ (M : Nat) (s : Nat → Value) (lo hi : Int) (nn ls : Bool) (n : Nat) (cs : Nat → vC) (c : Int32), av = [.ref M, .int c] ∧ ms S.1 M s lo hi nn ls n cs ∧ Q (some (.int (bI (cB n c)))) S
theorem cM_X14_isCell (G : xG) (l : Launch) : xM G l yX14_isCell cX14_isCell 2 (some FieldType.boolean) r_X14_isCell C_X14_isCell := by
  refine xM_of (fun Q => b_X14_isCell_0 Q) RX14 false (s_X14_isCell_0 G l) (by decide) rfl (by decide) ?_
  rintro av ⟨h, S2⟩ Q ⟨M, s, lo, hi, nn, ls, n, cs, c, rfl, w, hQ⟩
  dsimp only at *
  refine ⟨Nat.le_of_ble_eq_true rfl, ?_⟩
  have n3 := w.2.2.1
  simp only [q_c, x_iload, x_lload, x_aload, q_istore, q_lstore, q_astore, q_astore2, x_iinc, q_iadd, q_isub, q_imul, q_iand, q_ior, q_ixor, q_ladd, q_lsub, q_lmul, q_land, q_lor, q_lxor, q_idiv, q_irem, q_ldiv, q_lrem, q_ineg, q_lneg, q_ishl, q_ishr, q_iushr, q_lshl, q_lshr, q_lushr, q_i2l, q_l2i, q_i2b, q_i2c, q_lcmp, q_if_eq, q_if_ne, q_if_lt, q_if_ge, q_if_gt, q_if_le, q_icmp_eq, q_icmp_ne, q_icmp_lt, q_icmp_ge, q_icmp_gt, q_icmp_le, q_dup, q_pop, q_dup_x1, q_dup2, x_iret, x_zret, x_lret, x_aret, x_vret, x_call, x_callv, x_calli, x_oinit, x_mmax, x_mmin, x_mabs, x_mmaxL, x_mminL, x_mabsL, lg_cmp_ge, lg_cmp_le, lg_cmp_gt, lg_cmp_lt, lg_cmp_eq, xlk, q_xs1, q_xs2, lv_args, Value.category, List.filter_cons, List.filter_nil, Nat.reduceAdd, Nat.reduceBEq, Nat.reduceEqDiff, Nat.reduceSub, Nat.sub_zero, beq_self_eq_true, Bool.not_true, Bool.not_false, Bool.and_true, Bool.and_false, Bool.true_and, Bool.false_and, reduceIte, reduceCtorEq, Bool.false_eq_true, Nat.one_ne_zero, Nat.zero_ne_one, Nat.zero_add, Option.toList_some, Option.toList_none, List.nil_append, List.cons_append, List.take_succ_cons, List.take_zero, List.take_nil, List.drop_succ_cons, List.drop_zero, List.length_cons, List.length_nil, List.reverse_cons, List.reverse_nil, List.head?_cons, List.map_cons, List.map_nil, List.sum_cons, List.sum_nil, true_and, and_true, List.getElem?_cons_zero, List.getElem?_cons_succ, Prod.eta, x_get, x_put, x_iald, x_iast, x_bald, x_bast, x_lald, x_last, x_alen, xup_s, xup_a1, xup_1a, xup_uu, nr_i, nr_l, nr_o, nr_a, ft_i, ft_l, ft_o, ft_a, Nat.reduceLT, i_cl0, i_cl1, i_n1, i_m1, List.set_cons_zero, List.set_cons_succ, Nat.reduceLeDiff, Nat.le_refl, Nat.zero_le, Nat.add_zero, x_no, x_ifnull, x_ifnonnull, x_acmp_eq, x_acmp_ne, x_swl, x_tsw, x_castC, true_or, or_true, nr_z, ft_z, nr_z0, nr_z1, ft_z0, ft_z1, nr_on, nr_an, ft_on, ft_an, b_X14_isCell_0, b_X14_isCell_16, b_X14_isCell_17, w.1.M, mF, w.2.1, i_le, i_lt, i_0, nI_toInt (show n < 2 ^ 31 by omega)]
  have yes : cB n c = true → Q (some (.int 1)) (h, S2) := fun e => by rw [e] at hQ; exact hQ
  have no : cB n c = false → Q (some (.int 0)) (h, S2) := fun e => by rw [e] at hQ; exact hQ
  refine ⟨fun z => no (decide_eq_false (by omega)), fun z => ⟨fun y => no (decide_eq_false (by omega)), fun y => yes (decide_eq_true (by omega))⟩⟩
section KM
variable {h : xH} {T : Nat × Nat × Nat} {K : xQ} {M : Nat} {s : Nat → Value} {lo hi : Int} {nn ls : Bool} {n : Nat} {cs : Nat → vC} {i : Nat}
theorem k_isCell {c : Int32} (w : ms h M s lo hi nn ls n cs) (q : K (some (.int (bI (cB n c)))) (h, T)) : (∃ b fs, some (Value.ref M) = some (.ref b) ∧ h b = some (.inr (13, fs))) ∧ C_X14_isCell [.ref M, .int c] (h, T) K := ⟨⟨_, _, rfl, w.1.1⟩, M, s, lo, hi, nn, ls, n, cs, c, rfl, w, q⟩
end KM
theorem dX14_isEmpty_0 : decode cX14_isEmpty 0 = .ok (.aload_n 0, 1) := by decide +kernel
theorem dX14_isEmpty_1 : decode cX14_isEmpty 1 = .ok (.getfield 136, 3) := by decide +kernel
theorem dX14_isEmpty_4 : decode cX14_isEmpty 4 = .ok (.iload_n 1, 1) := by decide +kernel
theorem dX14_isEmpty_5 : decode cX14_isEmpty 5 = .ok (.iaload, 1) := by decide +kernel
theorem dX14_isEmpty_6 : decode cX14_isEmpty 6 = .ok (.ifCond .eq 20, 3) := by decide +kernel
theorem dX14_isEmpty_9 : decode cX14_isEmpty 9 = .ok (.aload_n 0, 1) := by decide +kernel
theorem dX14_isEmpty_10 : decode cX14_isEmpty 10 = .ok (.getfield 129, 3) := by decide +kernel
theorem dX14_isEmpty_13 : decode cX14_isEmpty 13 = .ok (.iload_n 1, 1) := by decide +kernel
theorem dX14_isEmpty_14 : decode cX14_isEmpty 14 = .ok (.laload, 1) := by decide +kernel
theorem dX14_isEmpty_15 : decode cX14_isEmpty 15 = .ok (.ldc2_w 61, 3) := by decide +kernel
theorem dX14_isEmpty_18 : decode cX14_isEmpty 18 = .ok (.lcmp, 1) := by decide +kernel
theorem dX14_isEmpty_19 : decode cX14_isEmpty 19 = .ok (.ifCond .ne 7, 3) := by decide +kernel
theorem dX14_isEmpty_22 : decode cX14_isEmpty 22 = .ok (.iconst 1, 1) := by decide +kernel
theorem dX14_isEmpty_23 : decode cX14_isEmpty 23 = .ok (.goto 4, 3) := by decide +kernel
theorem dX14_isEmpty_26 : decode cX14_isEmpty 26 = .ok (.iconst 0, 1) := by decide +kernel
theorem dX14_isEmpty_27 : decode cX14_isEmpty 27 = .ok (.ireturn, 1) := by decide +kernel
abbrev r_X14_isEmpty : Room := { frames := 0, cells := 0, slots := 0, locals := 0 }
abbrev m_X14_isEmpty : xMd := (cX14_isEmpty, RX14, 2, (some FieldType.boolean), false, r_X14_isEmpty)
def b_X14_isEmpty_27 (Q : xQ) : xK := x_zret FieldType.boolean Q
def b_X14_isEmpty_26 (Q : xQ) : xK := x_c (.int 0) <| (b_X14_isEmpty_27 Q)
def b_X14_isEmpty_0 (Q : xQ) : xK := x_aload 0 <| x_get 13 14 <| x_iload 1 <| x_iald <| x_if_eq ((b_X14_isEmpty_26 Q)) <| x_aload 0 <| x_get 13 12 <| x_iload 1 <| x_lald <| x_c (.long 9218868437227405312) <| x_lcmp <| x_if_ne ((b_X14_isEmpty_26 Q)) <| x_c (.int 1) <| (b_X14_isEmpty_27 Q)
theorem s_X14_isEmpty_27 (G : xG) (l : Launch) (Q : xQ) : xW G l m_X14_isEmpty xX0 (xPm G Q r_X14_isEmpty) 27 (b_X14_isEmpty_27 Q) := xo_zret (pc := 27) rfl dX14_isEmpty_27
theorem s_X14_isEmpty_26 (G : xG) (l : Launch) (Q : xQ) : xW G l m_X14_isEmpty xX0 (xPm G Q r_X14_isEmpty) 26 (b_X14_isEmpty_26 Q) := xo_iconst (pc := 26) dX14_isEmpty_26 (by decide) <| (s_X14_isEmpty_27 G l Q)
theorem s_X14_isEmpty_0 (G : xG) (l : Launch) (Q : xQ) : xW G l m_X14_isEmpty xX0 (xPm G Q r_X14_isEmpty) 0 (b_X14_isEmpty_0 Q) := xo_aload_n (pc := 0) (i := 0) dX14_isEmpty_0 rfl <| xo_get (pc := 1) (ci := 13) (i := 14) rfl ok13 (by decide) dX14_isEmpty_1 kw1215 <| xo_iload_n (pc := 4) (i := 1) dX14_isEmpty_4 rfl <| xo_iald (pc := 5) dX14_isEmpty_5 <| xo_if_eq (pc := 6) (tgt := 26) dX14_isEmpty_6 (by decide) ((s_X14_isEmpty_26 G l Q)) <| xo_aload_n (pc := 9) (i := 0) dX14_isEmpty_9 rfl <| xo_get (pc := 10) (ci := 13) (i := 12) rfl ok13 (by decide) dX14_isEmpty_10 kw1213 <| xo_iload_n (pc := 13) (i := 1) dX14_isEmpty_13 rfl <| xo_lald (pc := 14) dX14_isEmpty_14 <| xo_ldc2_w (pc := 15) dX14_isEmpty_15 kw1304 <| xo_lcmp (pc := 18) dX14_isEmpty_18 <| xo_if_ne (pc := 19) (tgt := 26) dX14_isEmpty_19 (by decide) ((s_X14_isEmpty_26 G l Q)) <| xo_iconst (pc := 22) dX14_isEmpty_22 (by decide) <| xo_goto (pc := 23) (tgt := 27) dX14_isEmpty_23 (by decide) <| (s_X14_isEmpty_27 G l Q)

def C_X14_isEmpty : xC := fun av S Q => ∃ (M : Nat) (s : Nat → Value) (lo hi : Int) (nn ls : Bool) (n : Nat) (cs : Nat → vC) (i : Nat), av = [.ref M, .int (nI i)] ∧ i < n ∧ ms S.1 M s lo hi nn ls n cs ∧ Q (some (.int (bI (eB (cs i))))) S
theorem mk0 {c : vC} (h : cOk c) : nI c.1 = 0 ↔ c.1 = 0 := nI_eq (b := 0) (by have := h.1; omega) (by decide)
theorem ci_cl {i n : Nat} (h : i < n) (hn : n ≤ 3000) : (nI i).toNatClampNeg = i := m_cl (by omega)
theorem ci_in {i n : Nat} (h : i < n) (hn : n ≤ 3000) : vp_in (nI i) 3000 = True := eq_true (vp_in_nI (by omega) (by decide))
theorem cM_X14_isEmpty (G : xG) (l : Launch) : xM G l yX14_isEmpty cX14_isEmpty 2 (some FieldType.boolean) r_X14_isEmpty C_X14_isEmpty := by
  refine xM_of (fun Q => b_X14_isEmpty_0 Q) RX14 false (s_X14_isEmpty_0 G l) (by decide) rfl (by decide) ?_
  rintro av ⟨h, S2⟩ Q ⟨M, s, lo, hi, nn, ls, n, cs, i, rfl, hi', w, hQ⟩
  dsimp only at *
  refine ⟨Nat.le_of_ble_eq_true rfl, ?_⟩
  obtain ⟨w1, w2, w3, w4, fl, fh, fm, cl, ch, cm, ca⟩ := w
  obtain ⟨al, ah, am⟩ := ca i hi'
  have ok := w4 i hi'
  have yes : eB (cs i) = true → Q (some (.int 1)) (h, S2) := fun e => by rw [e] at hQ; exact hQ
  have no : eB (cs i) = false → Q (some (.int 0)) (h, S2) := fun e => by rw [e] at hQ; exact hQ
  simp only [q_c, x_iload, x_lload, x_aload, q_istore, q_lstore, q_astore, q_astore2, x_iinc, q_iadd, q_isub, q_imul, q_iand, q_ior, q_ixor, q_ladd, q_lsub, q_lmul, q_land, q_lor, q_lxor, q_idiv, q_irem, q_ldiv, q_lrem, q_ineg, q_lneg, q_ishl, q_ishr, q_iushr, q_lshl, q_lshr, q_lushr, q_i2l, q_l2i, q_i2b, q_i2c, q_lcmp, q_if_eq, q_if_ne, q_if_lt, q_if_ge, q_if_gt, q_if_le, q_icmp_eq, q_icmp_ne, q_icmp_lt, q_icmp_ge, q_icmp_gt, q_icmp_le, q_dup, q_pop, q_dup_x1, q_dup2, x_iret, x_zret, x_lret, x_aret, x_vret, x_call, x_callv, x_calli, x_oinit, x_mmax, x_mmin, x_mabs, x_mmaxL, x_mminL, x_mabsL, lg_cmp_ge, lg_cmp_le, lg_cmp_gt, lg_cmp_lt, lg_cmp_eq, xlk, q_xs1, q_xs2, lv_args, Value.category, List.filter_cons, List.filter_nil, Nat.reduceAdd, Nat.reduceBEq, Nat.reduceEqDiff, Nat.reduceSub, Nat.sub_zero, beq_self_eq_true, Bool.not_true, Bool.not_false, Bool.and_true, Bool.and_false, Bool.true_and, Bool.false_and, reduceIte, reduceCtorEq, Bool.false_eq_true, Nat.one_ne_zero, Nat.zero_ne_one, Nat.zero_add, Option.toList_some, Option.toList_none, List.nil_append, List.cons_append, List.take_succ_cons, List.take_zero, List.take_nil, List.drop_succ_cons, List.drop_zero, List.length_cons, List.length_nil, List.reverse_cons, List.reverse_nil, List.head?_cons, List.map_cons, List.map_nil, List.sum_cons, List.sum_nil, true_and, and_true, List.getElem?_cons_zero, List.getElem?_cons_succ, Prod.eta, x_get, x_put, x_iald, x_iast, x_bald, x_bast, x_lald, x_last, x_alen, xup_s, xup_a1, xup_1a, xup_uu, nr_i, nr_l, nr_o, nr_a, ft_i, ft_l, ft_o, ft_a, Nat.reduceLT, i_cl0, i_cl1, i_n1, i_m1, List.set_cons_zero, List.set_cons_succ, Nat.reduceLeDiff, Nat.le_refl, Nat.zero_le, Nat.add_zero, x_no, x_ifnull, x_ifnonnull, x_acmp_eq, x_acmp_ne, x_swl, x_tsw, x_castC, true_or, or_true, nr_z, ft_z, nr_z0, nr_z1, ft_z0, ft_z1, nr_on, nr_an, ft_on, ft_an, b_X14_isEmpty_0, b_X14_isEmpty_26, b_X14_isEmpty_27, w1.M, mF, cl, cm, ci_cl hi' w3, ci_in hi' w3, al, am, mk0 ok, foB_INF ok.lo]
  refine ⟨fun z => no (decide_eq_false (by omega)), fun z => ?_⟩
  have el : rLo (cs i) = (cs i).2.1 := if_neg z
  rw [el]
  exact ⟨fun y => no (decide_eq_false (fun q => y q.2)), fun y => yes (decide_eq_true ⟨z, y⟩)⟩
section KM2
variable {h : xH} {T : Nat × Nat × Nat} {K : xQ} {M : Nat} {s : Nat → Value} {lo hi : Int} {nn ls : Bool} {n : Nat} {cs : Nat → vC} {i : Nat}
theorem k_isEmpty (w : ms h M s lo hi nn ls n cs) (hi' : i < n) (q : K (some (.int (bI (eB (cs i))))) (h, T)) : (∃ b fs, some (Value.ref M) = some (.ref b) ∧ h b = some (.inr (13, fs))) ∧ C_X14_isEmpty [.ref M, .int (nI i)] (h, T) K := ⟨⟨_, _, rfl, w.1.1⟩, M, s, lo, hi, nn, ls, n, cs, i, rfl, hi', w, q⟩
end KM2
theorem dX14_isBoundedCell_0 : decode cX14_isBoundedCell 0 = .ok (.aload_n 0, 1) := by decide +kernel
theorem dX14_isBoundedCell_1 : decode cX14_isBoundedCell 1 = .ok (.iload_n 1, 1) := by decide +kernel
theorem dX14_isBoundedCell_2 : decode cX14_isBoundedCell 2 = .ok (.invokevirtual 185, 3) := by decide +kernel
theorem dX14_isBoundedCell_5 : decode cX14_isBoundedCell 5 = .ok (.ifCond .ne 31, 3) := by decide +kernel
theorem dX14_isBoundedCell_8 : decode cX14_isBoundedCell 8 = .ok (.aload_n 0, 1) := by decide +kernel
theorem dX14_isBoundedCell_9 : decode cX14_isBoundedCell 9 = .ok (.getfield 129, 3) := by decide +kernel
theorem dX14_isBoundedCell_12 : decode cX14_isBoundedCell 12 = .ok (.iload_n 1, 1) := by decide +kernel
theorem dX14_isBoundedCell_13 : decode cX14_isBoundedCell 13 = .ok (.laload, 1) := by decide +kernel
theorem dX14_isBoundedCell_14 : decode cX14_isBoundedCell 14 = .ok (.invokestatic 178, 3) := by decide +kernel
theorem dX14_isBoundedCell_17 : decode cX14_isBoundedCell 17 = .ok (.ifCond .ne 19, 3) := by decide +kernel
theorem dX14_isBoundedCell_20 : decode cX14_isBoundedCell 20 = .ok (.aload_n 0, 1) := by decide +kernel
theorem dX14_isBoundedCell_21 : decode cX14_isBoundedCell 21 = .ok (.getfield 133, 3) := by decide +kernel
theorem dX14_isBoundedCell_24 : decode cX14_isBoundedCell 24 = .ok (.iload_n 1, 1) := by decide +kernel
theorem dX14_isBoundedCell_25 : decode cX14_isBoundedCell 25 = .ok (.laload, 1) := by decide +kernel
theorem dX14_isBoundedCell_26 : decode cX14_isBoundedCell 26 = .ok (.invokestatic 178, 3) := by decide +kernel
theorem dX14_isBoundedCell_29 : decode cX14_isBoundedCell 29 = .ok (.ifCond .ne 7, 3) := by decide +kernel
theorem dX14_isBoundedCell_32 : decode cX14_isBoundedCell 32 = .ok (.iconst 1, 1) := by decide +kernel
theorem dX14_isBoundedCell_33 : decode cX14_isBoundedCell 33 = .ok (.goto 4, 3) := by decide +kernel
theorem dX14_isBoundedCell_36 : decode cX14_isBoundedCell 36 = .ok (.iconst 0, 1) := by decide +kernel
theorem dX14_isBoundedCell_37 : decode cX14_isBoundedCell 37 = .ok (.ireturn, 1) := by decide +kernel
abbrev r_X14_isBoundedCell : Room := { frames := 1, cells := 0, slots := 0, locals := 21 }
abbrev m_X14_isBoundedCell : xMd := (cX14_isBoundedCell, RX14, 2, (some FieldType.boolean), false, r_X14_isBoundedCell)
def b_X14_isBoundedCell_37 (Q : xQ) : xK := x_zret FieldType.boolean Q
def b_X14_isBoundedCell_36 (Q : xQ) : xK := x_c (.int 0) <| (b_X14_isBoundedCell_37 Q)
def b_X14_isBoundedCell_0 (Q : xQ) : xK := x_aload 0 <| x_iload 1 <| x_callv 13 C_X14_isEmpty 2 0 0 <| x_if_ne ((b_X14_isBoundedCell_36 Q)) <| x_aload 0 <| x_get 13 12 <| x_iload 1 <| x_lald <| x_call C_X14_isInfinite 1 0 0 <| x_if_ne ((b_X14_isBoundedCell_36 Q)) <| x_aload 0 <| x_get 13 13 <| x_iload 1 <| x_lald <| x_call C_X14_isInfinite 1 0 0 <| x_if_ne ((b_X14_isBoundedCell_36 Q)) <| x_c (.int 1) <| (b_X14_isBoundedCell_37 Q)
theorem s_X14_isBoundedCell_37 (G : xG) (l : Launch) (Q : xQ) : xW G l m_X14_isBoundedCell xX0 (xPm G Q r_X14_isBoundedCell) 37 (b_X14_isBoundedCell_37 Q) := xo_zret (pc := 37) rfl dX14_isBoundedCell_37
theorem s_X14_isBoundedCell_36 (G : xG) (l : Launch) (Q : xQ) : xW G l m_X14_isBoundedCell xX0 (xPm G Q r_X14_isBoundedCell) 36 (b_X14_isBoundedCell_36 Q) := xo_iconst (pc := 36) dX14_isBoundedCell_36 (by decide) <| (s_X14_isBoundedCell_37 G l Q)
theorem s_X14_isBoundedCell_0 (G : xG) (l : Launch) (Q : xQ) : xW G l m_X14_isBoundedCell xX0 (xPm G Q r_X14_isBoundedCell) 0 (b_X14_isBoundedCell_0 Q) := xo_aload_n (pc := 0) (i := 0) dX14_isBoundedCell_0 rfl <| xo_iload_n (pc := 1) (i := 1) dX14_isBoundedCell_1 rfl <| xo_callV (pc := 2) (np := 1) (ci := 13) rfl (cM_X14_isEmpty G l) dX14_isBoundedCell_2 kw1343 kw1340 kw1342 ks53 kw13 (by decide +kernel) (by decide) <| xo_if_ne (pc := 5) (tgt := 36) dX14_isBoundedCell_5 (by decide) ((s_X14_isBoundedCell_36 G l Q)) <| xo_aload_n (pc := 8) (i := 0) dX14_isBoundedCell_8 rfl <| xo_get (pc := 9) (ci := 13) (i := 12) rfl ok13 (by decide) dX14_isBoundedCell_9 kw1213 <| xo_iload_n (pc := 12) (i := 1) dX14_isBoundedCell_12 rfl <| xo_lald (pc := 13) dX14_isBoundedCell_13 <| xo_callS (pc := 14) (np := 1) (cM_X14_isInfinite G l) dX14_isBoundedCell_14 kw1322 kw1320 kw1321 kw13 (by decide +kernel) (by decide) <| xo_if_ne (pc := 17) (tgt := 36) dX14_isBoundedCell_17 (by decide) ((s_X14_isBoundedCell_36 G l Q)) <| xo_aload_n (pc := 20) (i := 0) dX14_isBoundedCell_20 rfl <| xo_get (pc := 21) (ci := 13) (i := 13) rfl ok13 (by decide) dX14_isBoundedCell_21 kw1214 <| xo_iload_n (pc := 24) (i := 1) dX14_isBoundedCell_24 rfl <| xo_lald (pc := 25) dX14_isBoundedCell_25 <| xo_callS (pc := 26) (np := 1) (cM_X14_isInfinite G l) dX14_isBoundedCell_26 kw1322 kw1320 kw1321 kw13 (by decide +kernel) (by decide) <| xo_if_ne (pc := 29) (tgt := 36) dX14_isBoundedCell_29 (by decide) ((s_X14_isBoundedCell_36 G l Q)) <| xo_iconst (pc := 32) dX14_isBoundedCell_32 (by decide) <| xo_goto (pc := 33) (tgt := 37) dX14_isBoundedCell_33 (by decide) <| (s_X14_isBoundedCell_37 G l Q)

def bdB (c : vC) : Bool := !eB c && !iN (rLo c) && !iN (rHi c)
def C_X14_isBoundedCell : xC := fun av S Q => ∃ (M : Nat) (s : Nat → Value) (lo hi : Int) (nn ls : Bool) (n : Nat) (cs : Nat → vC) (i : Nat), av = [.ref M, .int (nI i)] ∧ i < n ∧ ms S.1 M s lo hi nn ls n cs ∧ Q (some (.int (bI (bdB (cs i))))) S
theorem cM_X14_isBoundedCell (G : xG) (l : Launch) : xM G l yX14_isBoundedCell cX14_isBoundedCell 2 (some FieldType.boolean) r_X14_isBoundedCell C_X14_isBoundedCell := by
  refine xM_of (fun Q => b_X14_isBoundedCell_0 Q) RX14 false (s_X14_isBoundedCell_0 G l) (by decide) rfl (by decide) ?_
  rintro av ⟨h, S2⟩ Q ⟨M, s, lo, hi, nn, ls, n, cs, i, rfl, hi', w, hQ⟩
  dsimp only at *
  refine ⟨Nat.le_of_ble_eq_true rfl, ?_⟩
  obtain ⟨w1, w2, w3, w4, fl, fh, fm, cl, ch, cm, ca⟩ := id w
  obtain ⟨al, ah, am⟩ := ca i hi'
  have ok := w4 i hi'
  have yes : bdB (cs i) = true → Q (some (.int 1)) (h, S2) := fun e => by rw [e] at hQ; exact hQ
  have no : bdB (cs i) = false → Q (some (.int 0)) (h, S2) := fun e => by rw [e] at hQ; exact hQ
  unfold bdB at yes no
  simp only [q_c, x_iload, x_lload, x_aload, q_istore, q_lstore, q_astore, q_astore2, x_iinc, q_iadd, q_isub, q_imul, q_iand, q_ior, q_ixor, q_ladd, q_lsub, q_lmul, q_land, q_lor, q_lxor, q_idiv, q_irem, q_ldiv, q_lrem, q_ineg, q_lneg, q_ishl, q_ishr, q_iushr, q_lshl, q_lshr, q_lushr, q_i2l, q_l2i, q_i2b, q_i2c, q_lcmp, q_if_eq, q_if_ne, q_if_lt, q_if_ge, q_if_gt, q_if_le, q_icmp_eq, q_icmp_ne, q_icmp_lt, q_icmp_ge, q_icmp_gt, q_icmp_le, q_dup, q_pop, q_dup_x1, q_dup2, x_iret, x_zret, x_lret, x_aret, x_vret, x_call, x_callv, x_calli, x_oinit, x_mmax, x_mmin, x_mabs, x_mmaxL, x_mminL, x_mabsL, lg_cmp_ge, lg_cmp_le, lg_cmp_gt, lg_cmp_lt, lg_cmp_eq, xlk, q_xs1, q_xs2, lv_args, Value.category, List.filter_cons, List.filter_nil, Nat.reduceAdd, Nat.reduceBEq, Nat.reduceEqDiff, Nat.reduceSub, Nat.sub_zero, beq_self_eq_true, Bool.not_true, Bool.not_false, Bool.and_true, Bool.and_false, Bool.true_and, Bool.false_and, reduceIte, reduceCtorEq, Bool.false_eq_true, Nat.one_ne_zero, Nat.zero_ne_one, Nat.zero_add, Option.toList_some, Option.toList_none, List.nil_append, List.cons_append, List.take_succ_cons, List.take_zero, List.take_nil, List.drop_succ_cons, List.drop_zero, List.length_cons, List.length_nil, List.reverse_cons, List.reverse_nil, List.head?_cons, List.map_cons, List.map_nil, List.sum_cons, List.sum_nil, true_and, and_true, List.getElem?_cons_zero, List.getElem?_cons_succ, Prod.eta, x_get, x_put, x_iald, x_iast, x_bald, x_bast, x_lald, x_last, x_alen, xup_s, xup_a1, xup_1a, xup_uu, nr_i, nr_l, nr_o, nr_a, ft_i, ft_l, ft_o, ft_a, Nat.reduceLT, i_cl0, i_cl1, i_n1, i_m1, List.set_cons_zero, List.set_cons_succ, Nat.reduceLeDiff, Nat.le_refl, Nat.zero_le, Nat.add_zero, x_no, x_ifnull, x_ifnonnull, x_acmp_eq, x_acmp_ne, x_swl, x_tsw, x_castC, true_or, or_true, nr_z, ft_z, nr_z0, nr_z1, ft_z0, ft_z1, nr_on, nr_an, ft_on, ft_an, b_X14_isBoundedCell_0, b_X14_isBoundedCell_36, b_X14_isBoundedCell_37]
  refine k_isEmpty w hi' ?_
  simp only [q_c, x_iload, x_lload, x_aload, q_istore, q_lstore, q_astore, q_astore2, x_iinc, q_iadd, q_isub, q_imul, q_iand, q_ior, q_ixor, q_ladd, q_lsub, q_lmul, q_land, q_lor, q_lxor, q_idiv, q_irem, q_ldiv, q_lrem, q_ineg, q_lneg, q_ishl, q_ishr, q_iushr, q_lshl, q_lshr, q_lushr, q_i2l, q_l2i, q_i2b, q_i2c, q_lcmp, q_if_eq, q_if_ne, q_if_lt, q_if_ge, q_if_gt, q_if_le, q_icmp_eq, q_icmp_ne, q_icmp_lt, q_icmp_ge, q_icmp_gt, q_icmp_le, q_dup, q_pop, q_dup_x1, q_dup2, x_iret, x_zret, x_lret, x_aret, x_vret, x_call, x_callv, x_calli, x_oinit, x_mmax, x_mmin, x_mabs, x_mmaxL, x_mminL, x_mabsL, lg_cmp_ge, lg_cmp_le, lg_cmp_gt, lg_cmp_lt, lg_cmp_eq, xlk, q_xs1, q_xs2, lv_args, Value.category, List.filter_cons, List.filter_nil, Nat.reduceAdd, Nat.reduceBEq, Nat.reduceEqDiff, Nat.reduceSub, Nat.sub_zero, beq_self_eq_true, Bool.not_true, Bool.not_false, Bool.and_true, Bool.and_false, Bool.true_and, Bool.false_and, reduceIte, reduceCtorEq, Bool.false_eq_true, Nat.one_ne_zero, Nat.zero_ne_one, Nat.zero_add, Option.toList_some, Option.toList_none, List.nil_append, List.cons_append, List.take_succ_cons, List.take_zero, List.take_nil, List.drop_succ_cons, List.drop_zero, List.length_cons, List.length_nil, List.reverse_cons, List.reverse_nil, List.head?_cons, List.map_cons, List.map_nil, List.sum_cons, List.sum_nil, true_and, and_true, List.getElem?_cons_zero, List.getElem?_cons_succ, Prod.eta, x_get, x_put, x_iald, x_iast, x_bald, x_bast, x_lald, x_last, x_alen, xup_s, xup_a1, xup_1a, xup_uu, nr_i, nr_l, nr_o, nr_a, ft_i, ft_l, ft_o, ft_a, Nat.reduceLT, i_cl0, i_cl1, i_n1, i_m1, List.set_cons_zero, List.set_cons_succ, Nat.reduceLeDiff, Nat.le_refl, Nat.zero_le, Nat.add_zero, x_no, x_ifnull, x_ifnonnull, x_acmp_eq, x_acmp_ne, x_swl, x_tsw, x_castC, true_or, or_true, nr_z, ft_z, nr_z0, nr_z1, ft_z0, ft_z1, nr_on, nr_an, ft_on, ft_an, bI_e0, w1.M, mF, cl, ch, ci_cl hi' w3, ci_in hi' w3, al, ah]
  refine ⟨fun z => no (by rw [eq_true_of_ne_false z]; rfl), fun z => k_inf ok.lo ?_⟩
  simp only [q_c, x_iload, x_lload, x_aload, q_istore, q_lstore, q_astore, q_astore2, x_iinc, q_iadd, q_isub, q_imul, q_iand, q_ior, q_ixor, q_ladd, q_lsub, q_lmul, q_land, q_lor, q_lxor, q_idiv, q_irem, q_ldiv, q_lrem, q_ineg, q_lneg, q_ishl, q_ishr, q_iushr, q_lshl, q_lshr, q_lushr, q_i2l, q_l2i, q_i2b, q_i2c, q_lcmp, q_if_eq, q_if_ne, q_if_lt, q_if_ge, q_if_gt, q_if_le, q_icmp_eq, q_icmp_ne, q_icmp_lt, q_icmp_ge, q_icmp_gt, q_icmp_le, q_dup, q_pop, q_dup_x1, q_dup2, x_iret, x_zret, x_lret, x_aret, x_vret, x_call, x_callv, x_calli, x_oinit, x_mmax, x_mmin, x_mabs, x_mmaxL, x_mminL, x_mabsL, lg_cmp_ge, lg_cmp_le, lg_cmp_gt, lg_cmp_lt, lg_cmp_eq, xlk, q_xs1, q_xs2, lv_args, Value.category, List.filter_cons, List.filter_nil, Nat.reduceAdd, Nat.reduceBEq, Nat.reduceEqDiff, Nat.reduceSub, Nat.sub_zero, beq_self_eq_true, Bool.not_true, Bool.not_false, Bool.and_true, Bool.and_false, Bool.true_and, Bool.false_and, reduceIte, reduceCtorEq, Bool.false_eq_true, Nat.one_ne_zero, Nat.zero_ne_one, Nat.zero_add, Option.toList_some, Option.toList_none, List.nil_append, List.cons_append, List.take_succ_cons, List.take_zero, List.take_nil, List.drop_succ_cons, List.drop_zero, List.length_cons, List.length_nil, List.reverse_cons, List.reverse_nil, List.head?_cons, List.map_cons, List.map_nil, List.sum_cons, List.sum_nil, true_and, and_true, List.getElem?_cons_zero, List.getElem?_cons_succ, Prod.eta, x_get, x_put, x_iald, x_iast, x_bald, x_bast, x_lald, x_last, x_alen, xup_s, xup_a1, xup_1a, xup_uu, nr_i, nr_l, nr_o, nr_a, ft_i, ft_l, ft_o, ft_a, Nat.reduceLT, i_cl0, i_cl1, i_n1, i_m1, List.set_cons_zero, List.set_cons_succ, Nat.reduceLeDiff, Nat.le_refl, Nat.zero_le, Nat.add_zero, x_no, x_ifnull, x_ifnonnull, x_acmp_eq, x_acmp_ne, x_swl, x_tsw, x_castC, true_or, or_true, nr_z, ft_z, nr_z0, nr_z1, ft_z0, ft_z1, nr_on, nr_an, ft_on, ft_an, bI_e0, w1.M, mF, cl, ch, ci_cl hi' w3, ci_in hi' w3, al, ah]
  refine ⟨fun y => no (by rw [eq_true_of_ne_false y, Bool.not_true, Bool.and_false, Bool.false_and]), fun y => k_inf ok.hi ?_⟩
  simp only [q_c, x_iload, x_lload, x_aload, q_istore, q_lstore, q_astore, q_astore2, x_iinc, q_iadd, q_isub, q_imul, q_iand, q_ior, q_ixor, q_ladd, q_lsub, q_lmul, q_land, q_lor, q_lxor, q_idiv, q_irem, q_ldiv, q_lrem, q_ineg, q_lneg, q_ishl, q_ishr, q_iushr, q_lshl, q_lshr, q_lushr, q_i2l, q_l2i, q_i2b, q_i2c, q_lcmp, q_if_eq, q_if_ne, q_if_lt, q_if_ge, q_if_gt, q_if_le, q_icmp_eq, q_icmp_ne, q_icmp_lt, q_icmp_ge, q_icmp_gt, q_icmp_le, q_dup, q_pop, q_dup_x1, q_dup2, x_iret, x_zret, x_lret, x_aret, x_vret, x_call, x_callv, x_calli, x_oinit, x_mmax, x_mmin, x_mabs, x_mmaxL, x_mminL, x_mabsL, lg_cmp_ge, lg_cmp_le, lg_cmp_gt, lg_cmp_lt, lg_cmp_eq, xlk, q_xs1, q_xs2, lv_args, Value.category, List.filter_cons, List.filter_nil, Nat.reduceAdd, Nat.reduceBEq, Nat.reduceEqDiff, Nat.reduceSub, Nat.sub_zero, beq_self_eq_true, Bool.not_true, Bool.not_false, Bool.and_true, Bool.and_false, Bool.true_and, Bool.false_and, reduceIte, reduceCtorEq, Bool.false_eq_true, Nat.one_ne_zero, Nat.zero_ne_one, Nat.zero_add, Option.toList_some, Option.toList_none, List.nil_append, List.cons_append, List.take_succ_cons, List.take_zero, List.take_nil, List.drop_succ_cons, List.drop_zero, List.length_cons, List.length_nil, List.reverse_cons, List.reverse_nil, List.head?_cons, List.map_cons, List.map_nil, List.sum_cons, List.sum_nil, true_and, and_true, List.getElem?_cons_zero, List.getElem?_cons_succ, Prod.eta, x_get, x_put, x_iald, x_iast, x_bald, x_bast, x_lald, x_last, x_alen, xup_s, xup_a1, xup_1a, xup_uu, nr_i, nr_l, nr_o, nr_a, ft_i, ft_l, ft_o, ft_a, Nat.reduceLT, i_cl0, i_cl1, i_n1, i_m1, List.set_cons_zero, List.set_cons_succ, Nat.reduceLeDiff, Nat.le_refl, Nat.zero_le, Nat.add_zero, x_no, x_ifnull, x_ifnonnull, x_acmp_eq, x_acmp_ne, x_swl, x_tsw, x_castC, true_or, or_true, nr_z, ft_z, nr_z0, nr_z1, ft_z0, ft_z1, nr_on, nr_an, ft_on, ft_an, bI_e0]
  exact ⟨fun x => no (by rw [eq_true_of_ne_false x, Bool.not_true, Bool.and_false]), fun x => yes (by rw [z, y, x]; rfl)⟩
theorem lz_gt0 {k : Int} (h : oF k) : (0 : Int64) < lZ k ↔ 0 < k := by rw [lZ0]; exact lZ_ltI oF0 h
theorem lz_ge0 {k : Int} (h : oF k) : (0 : Int64) ≤ lZ k ↔ 0 ≤ k := by rw [lZ0]; exact lZ_leI oF0 h
theorem lz_lt0 {k : Int} (h : oF k) : lZ k < (0 : Int64) ↔ k < 0 := by rw [lZ0]; exact lZ_ltI h oF0
theorem lz_le0 {k : Int} (h : oF k) : lZ k ≤ (0 : Int64) ↔ k ≤ 0 := by rw [lZ0]; exact lZ_leI h oF0
theorem dX14_hasZero_0 : decode cX14_hasZero 0 = .ok (.aload_n 0, 1) := by decide +kernel
theorem dX14_hasZero_1 : decode cX14_hasZero 1 = .ok (.iload_n 1, 1) := by decide +kernel
theorem dX14_hasZero_2 : decode cX14_hasZero 2 = .ok (.invokevirtual 185, 3) := by decide +kernel
theorem dX14_hasZero_5 : decode cX14_hasZero 5 = .ok (.ifCond .ne 35, 3) := by decide +kernel
theorem dX14_hasZero_8 : decode cX14_hasZero 8 = .ok (.aload_n 0, 1) := by decide +kernel
theorem dX14_hasZero_9 : decode cX14_hasZero 9 = .ok (.getfield 129, 3) := by decide +kernel
theorem dX14_hasZero_12 : decode cX14_hasZero 12 = .ok (.iload_n 1, 1) := by decide +kernel
theorem dX14_hasZero_13 : decode cX14_hasZero 13 = .ok (.laload, 1) := by decide +kernel
theorem dX14_hasZero_14 : decode cX14_hasZero 14 = .ok (.invokestatic 160, 3) := by decide +kernel
theorem dX14_hasZero_17 : decode cX14_hasZero 17 = .ok (.lconst 0, 1) := by decide +kernel
theorem dX14_hasZero_18 : decode cX14_hasZero 18 = .ok (.lcmp, 1) := by decide +kernel
theorem dX14_hasZero_19 : decode cX14_hasZero 19 = .ok (.ifCond .gt 21, 3) := by decide +kernel
theorem dX14_hasZero_22 : decode cX14_hasZero 22 = .ok (.aload_n 0, 1) := by decide +kernel
theorem dX14_hasZero_23 : decode cX14_hasZero 23 = .ok (.getfield 133, 3) := by decide +kernel
theorem dX14_hasZero_26 : decode cX14_hasZero 26 = .ok (.iload_n 1, 1) := by decide +kernel
theorem dX14_hasZero_27 : decode cX14_hasZero 27 = .ok (.laload, 1) := by decide +kernel
theorem dX14_hasZero_28 : decode cX14_hasZero 28 = .ok (.invokestatic 160, 3) := by decide +kernel
theorem dX14_hasZero_31 : decode cX14_hasZero 31 = .ok (.lconst 0, 1) := by decide +kernel
theorem dX14_hasZero_32 : decode cX14_hasZero 32 = .ok (.lcmp, 1) := by decide +kernel
theorem dX14_hasZero_33 : decode cX14_hasZero 33 = .ok (.ifCond .lt 7, 3) := by decide +kernel
theorem dX14_hasZero_36 : decode cX14_hasZero 36 = .ok (.iconst 1, 1) := by decide +kernel
theorem dX14_hasZero_37 : decode cX14_hasZero 37 = .ok (.goto 4, 3) := by decide +kernel
theorem dX14_hasZero_40 : decode cX14_hasZero 40 = .ok (.iconst 0, 1) := by decide +kernel
theorem dX14_hasZero_41 : decode cX14_hasZero 41 = .ok (.ireturn, 1) := by decide +kernel
abbrev r_X14_hasZero : Room := { frames := 1, cells := 0, slots := 0, locals := 21 }
abbrev m_X14_hasZero : xMd := (cX14_hasZero, RX14, 2, (some FieldType.boolean), false, r_X14_hasZero)
def b_X14_hasZero_41 (Q : xQ) : xK := x_zret FieldType.boolean Q
def b_X14_hasZero_40 (Q : xQ) : xK := x_c (.int 0) <| (b_X14_hasZero_41 Q)
def b_X14_hasZero_0 (Q : xQ) : xK := x_aload 0 <| x_iload 1 <| x_callv 13 C_X14_isEmpty 2 0 0 <| x_if_ne ((b_X14_hasZero_40 Q)) <| x_aload 0 <| x_get 13 12 <| x_iload 1 <| x_lald <| x_call C_X14_order 1 0 0 <| x_c (.long 0) <| x_lcmp <| x_if_gt ((b_X14_hasZero_40 Q)) <| x_aload 0 <| x_get 13 13 <| x_iload 1 <| x_lald <| x_call C_X14_order 1 0 0 <| x_c (.long 0) <| x_lcmp <| x_if_lt ((b_X14_hasZero_40 Q)) <| x_c (.int 1) <| (b_X14_hasZero_41 Q)
theorem s_X14_hasZero_41 (G : xG) (l : Launch) (Q : xQ) : xW G l m_X14_hasZero xX0 (xPm G Q r_X14_hasZero) 41 (b_X14_hasZero_41 Q) := xo_zret (pc := 41) rfl dX14_hasZero_41
theorem s_X14_hasZero_40 (G : xG) (l : Launch) (Q : xQ) : xW G l m_X14_hasZero xX0 (xPm G Q r_X14_hasZero) 40 (b_X14_hasZero_40 Q) := xo_iconst (pc := 40) dX14_hasZero_40 (by decide) <| (s_X14_hasZero_41 G l Q)
theorem s_X14_hasZero_0 (G : xG) (l : Launch) (Q : xQ) : xW G l m_X14_hasZero xX0 (xPm G Q r_X14_hasZero) 0 (b_X14_hasZero_0 Q) := xo_aload_n (pc := 0) (i := 0) dX14_hasZero_0 rfl <| xo_iload_n (pc := 1) (i := 1) dX14_hasZero_1 rfl <| xo_callV (pc := 2) (np := 1) (ci := 13) rfl (cM_X14_isEmpty G l) dX14_hasZero_2 kw1343 kw1340 kw1342 ks53 kw13 (by decide +kernel) (by decide) <| xo_if_ne (pc := 5) (tgt := 40) dX14_hasZero_5 (by decide) ((s_X14_hasZero_40 G l Q)) <| xo_aload_n (pc := 8) (i := 0) dX14_hasZero_8 rfl <| xo_get (pc := 9) (ci := 13) (i := 12) rfl ok13 (by decide) dX14_hasZero_9 kw1213 <| xo_iload_n (pc := 12) (i := 1) dX14_hasZero_12 rfl <| xo_lald (pc := 13) dX14_hasZero_13 <| xo_callS (pc := 14) (np := 1) (cM_X14_order G l) dX14_hasZero_14 kw1308 kw1306 kw1307 kw13 (by decide +kernel) (by decide) <| xo_lconst (pc := 17) dX14_hasZero_17 (by decide) <| xo_lcmp (pc := 18) dX14_hasZero_18 <| xo_if_gt (pc := 19) (tgt := 40) dX14_hasZero_19 (by decide) ((s_X14_hasZero_40 G l Q)) <| xo_aload_n (pc := 22) (i := 0) dX14_hasZero_22 rfl <| xo_get (pc := 23) (ci := 13) (i := 13) rfl ok13 (by decide) dX14_hasZero_23 kw1214 <| xo_iload_n (pc := 26) (i := 1) dX14_hasZero_26 rfl <| xo_lald (pc := 27) dX14_hasZero_27 <| xo_callS (pc := 28) (np := 1) (cM_X14_order G l) dX14_hasZero_28 kw1308 kw1306 kw1307 kw13 (by decide +kernel) (by decide) <| xo_lconst (pc := 31) dX14_hasZero_31 (by decide) <| xo_lcmp (pc := 32) dX14_hasZero_32 <| xo_if_lt (pc := 33) (tgt := 40) dX14_hasZero_33 (by decide) ((s_X14_hasZero_40 G l Q)) <| xo_iconst (pc := 36) dX14_hasZero_36 (by decide) <| xo_goto (pc := 37) (tgt := 41) dX14_hasZero_37 (by decide) <| (s_X14_hasZero_41 G l Q)

def zB (c : vC) : Bool := !eB c && decide (rLo c ≤ 0) && decide (0 ≤ rHi c)
def C_X14_hasZero : xC := fun av S Q => ∃ (M : Nat) (s : Nat → Value) (lo hi : Int) (nn ls : Bool) (n : Nat) (cs : Nat → vC) (i : Nat), av = [.ref M, .int (nI i)] ∧ i < n ∧ ms S.1 M s lo hi nn ls n cs ∧ Q (some (.int (bI (zB (cs i))))) S
theorem cM_X14_hasZero (G : xG) (l : Launch) : xM G l yX14_hasZero cX14_hasZero 2 (some FieldType.boolean) r_X14_hasZero C_X14_hasZero := by
  refine xM_of (fun Q => b_X14_hasZero_0 Q) RX14 false (s_X14_hasZero_0 G l) (by decide) rfl (by decide) ?_
  rintro av ⟨h, S2⟩ Q ⟨M, s, lo, hi, nn, ls, n, cs, i, rfl, hi', w, hQ⟩
  dsimp only at *
  refine ⟨Nat.le_of_ble_eq_true rfl, ?_⟩
  obtain ⟨w1, w2, w3, w4, fl, fh, fm, cl, ch, cm, ca⟩ := id w
  obtain ⟨al, ah, am⟩ := ca i hi'
  have ok := w4 i hi'
  have yes : zB (cs i) = true → Q (some (.int 1)) (h, S2) := fun e => by rw [e] at hQ; exact hQ
  have no : zB (cs i) = false → Q (some (.int 0)) (h, S2) := fun e => by rw [e] at hQ; exact hQ
  unfold zB at yes no
  simp only [q_c, x_iload, x_lload, x_aload, q_istore, q_lstore, q_astore, q_astore2, x_iinc, q_iadd, q_isub, q_imul, q_iand, q_ior, q_ixor, q_ladd, q_lsub, q_lmul, q_land, q_lor, q_lxor, q_idiv, q_irem, q_ldiv, q_lrem, q_ineg, q_lneg, q_ishl, q_ishr, q_iushr, q_lshl, q_lshr, q_lushr, q_i2l, q_l2i, q_i2b, q_i2c, q_lcmp, q_if_eq, q_if_ne, q_if_lt, q_if_ge, q_if_gt, q_if_le, q_icmp_eq, q_icmp_ne, q_icmp_lt, q_icmp_ge, q_icmp_gt, q_icmp_le, q_dup, q_pop, q_dup_x1, q_dup2, x_iret, x_zret, x_lret, x_aret, x_vret, x_call, x_callv, x_calli, x_oinit, x_mmax, x_mmin, x_mabs, x_mmaxL, x_mminL, x_mabsL, lg_cmp_ge, lg_cmp_le, lg_cmp_gt, lg_cmp_lt, lg_cmp_eq, xlk, q_xs1, q_xs2, lv_args, Value.category, List.filter_cons, List.filter_nil, Nat.reduceAdd, Nat.reduceBEq, Nat.reduceEqDiff, Nat.reduceSub, Nat.sub_zero, beq_self_eq_true, Bool.not_true, Bool.not_false, Bool.and_true, Bool.and_false, Bool.true_and, Bool.false_and, reduceIte, reduceCtorEq, Bool.false_eq_true, Nat.one_ne_zero, Nat.zero_ne_one, Nat.zero_add, Option.toList_some, Option.toList_none, List.nil_append, List.cons_append, List.take_succ_cons, List.take_zero, List.take_nil, List.drop_succ_cons, List.drop_zero, List.length_cons, List.length_nil, List.reverse_cons, List.reverse_nil, List.head?_cons, List.map_cons, List.map_nil, List.sum_cons, List.sum_nil, true_and, and_true, List.getElem?_cons_zero, List.getElem?_cons_succ, Prod.eta, x_get, x_put, x_iald, x_iast, x_bald, x_bast, x_lald, x_last, x_alen, xup_s, xup_a1, xup_1a, xup_uu, nr_i, nr_l, nr_o, nr_a, ft_i, ft_l, ft_o, ft_a, Nat.reduceLT, i_cl0, i_cl1, i_n1, i_m1, List.set_cons_zero, List.set_cons_succ, Nat.reduceLeDiff, Nat.le_refl, Nat.zero_le, Nat.add_zero, x_no, x_ifnull, x_ifnonnull, x_acmp_eq, x_acmp_ne, x_swl, x_tsw, x_castC, true_or, or_true, nr_z, ft_z, nr_z0, nr_z1, ft_z0, ft_z1, nr_on, nr_an, ft_on, ft_an, b_X14_hasZero_0, b_X14_hasZero_40, b_X14_hasZero_41]
  refine k_isEmpty w hi' ?_
  simp only [q_c, x_iload, x_lload, x_aload, q_istore, q_lstore, q_astore, q_astore2, x_iinc, q_iadd, q_isub, q_imul, q_iand, q_ior, q_ixor, q_ladd, q_lsub, q_lmul, q_land, q_lor, q_lxor, q_idiv, q_irem, q_ldiv, q_lrem, q_ineg, q_lneg, q_ishl, q_ishr, q_iushr, q_lshl, q_lshr, q_lushr, q_i2l, q_l2i, q_i2b, q_i2c, q_lcmp, q_if_eq, q_if_ne, q_if_lt, q_if_ge, q_if_gt, q_if_le, q_icmp_eq, q_icmp_ne, q_icmp_lt, q_icmp_ge, q_icmp_gt, q_icmp_le, q_dup, q_pop, q_dup_x1, q_dup2, x_iret, x_zret, x_lret, x_aret, x_vret, x_call, x_callv, x_calli, x_oinit, x_mmax, x_mmin, x_mabs, x_mmaxL, x_mminL, x_mabsL, lg_cmp_ge, lg_cmp_le, lg_cmp_gt, lg_cmp_lt, lg_cmp_eq, xlk, q_xs1, q_xs2, lv_args, Value.category, List.filter_cons, List.filter_nil, Nat.reduceAdd, Nat.reduceBEq, Nat.reduceEqDiff, Nat.reduceSub, Nat.sub_zero, beq_self_eq_true, Bool.not_true, Bool.not_false, Bool.and_true, Bool.and_false, Bool.true_and, Bool.false_and, reduceIte, reduceCtorEq, Bool.false_eq_true, Nat.one_ne_zero, Nat.zero_ne_one, Nat.zero_add, Option.toList_some, Option.toList_none, List.nil_append, List.cons_append, List.take_succ_cons, List.take_zero, List.take_nil, List.drop_succ_cons, List.drop_zero, List.length_cons, List.length_nil, List.reverse_cons, List.reverse_nil, List.head?_cons, List.map_cons, List.map_nil, List.sum_cons, List.sum_nil, true_and, and_true, List.getElem?_cons_zero, List.getElem?_cons_succ, Prod.eta, x_get, x_put, x_iald, x_iast, x_bald, x_bast, x_lald, x_last, x_alen, xup_s, xup_a1, xup_1a, xup_uu, nr_i, nr_l, nr_o, nr_a, ft_i, ft_l, ft_o, ft_a, Nat.reduceLT, i_cl0, i_cl1, i_n1, i_m1, List.set_cons_zero, List.set_cons_succ, Nat.reduceLeDiff, Nat.le_refl, Nat.zero_le, Nat.add_zero, x_no, x_ifnull, x_ifnonnull, x_acmp_eq, x_acmp_ne, x_swl, x_tsw, x_castC, true_or, or_true, nr_z, ft_z, nr_z0, nr_z1, ft_z0, ft_z1, nr_on, nr_an, ft_on, ft_an, bI_e0, w1.M, mF, cl, ch, ci_cl hi' w3, ci_in hi' w3, al, ah]
  refine ⟨fun z => no (by rw [eq_true_of_ne_false z]; rfl), fun z => k_ord ok.lo ?_⟩
  simp only [q_c, x_iload, x_lload, x_aload, q_istore, q_lstore, q_astore, q_astore2, x_iinc, q_iadd, q_isub, q_imul, q_iand, q_ior, q_ixor, q_ladd, q_lsub, q_lmul, q_land, q_lor, q_lxor, q_idiv, q_irem, q_ldiv, q_lrem, q_ineg, q_lneg, q_ishl, q_ishr, q_iushr, q_lshl, q_lshr, q_lushr, q_i2l, q_l2i, q_i2b, q_i2c, q_lcmp, q_if_eq, q_if_ne, q_if_lt, q_if_ge, q_if_gt, q_if_le, q_icmp_eq, q_icmp_ne, q_icmp_lt, q_icmp_ge, q_icmp_gt, q_icmp_le, q_dup, q_pop, q_dup_x1, q_dup2, x_iret, x_zret, x_lret, x_aret, x_vret, x_call, x_callv, x_calli, x_oinit, x_mmax, x_mmin, x_mabs, x_mmaxL, x_mminL, x_mabsL, lg_cmp_ge, lg_cmp_le, lg_cmp_gt, lg_cmp_lt, lg_cmp_eq, xlk, q_xs1, q_xs2, lv_args, Value.category, List.filter_cons, List.filter_nil, Nat.reduceAdd, Nat.reduceBEq, Nat.reduceEqDiff, Nat.reduceSub, Nat.sub_zero, beq_self_eq_true, Bool.not_true, Bool.not_false, Bool.and_true, Bool.and_false, Bool.true_and, Bool.false_and, reduceIte, reduceCtorEq, Bool.false_eq_true, Nat.one_ne_zero, Nat.zero_ne_one, Nat.zero_add, Option.toList_some, Option.toList_none, List.nil_append, List.cons_append, List.take_succ_cons, List.take_zero, List.take_nil, List.drop_succ_cons, List.drop_zero, List.length_cons, List.length_nil, List.reverse_cons, List.reverse_nil, List.head?_cons, List.map_cons, List.map_nil, List.sum_cons, List.sum_nil, true_and, and_true, List.getElem?_cons_zero, List.getElem?_cons_succ, Prod.eta, x_get, x_put, x_iald, x_iast, x_bald, x_bast, x_lald, x_last, x_alen, xup_s, xup_a1, xup_1a, xup_uu, nr_i, nr_l, nr_o, nr_a, ft_i, ft_l, ft_o, ft_a, Nat.reduceLT, i_cl0, i_cl1, i_n1, i_m1, List.set_cons_zero, List.set_cons_succ, Nat.reduceLeDiff, Nat.le_refl, Nat.zero_le, Nat.add_zero, x_no, x_ifnull, x_ifnonnull, x_acmp_eq, x_acmp_ne, x_swl, x_tsw, x_castC, true_or, or_true, nr_z, ft_z, nr_z0, nr_z1, ft_z0, ft_z1, nr_on, nr_an, ft_on, ft_an, lz_gt0 ok.lo, w1.M, mF, cl, ch, ci_cl hi' w3, ci_in hi' w3, al, ah]
  refine ⟨fun y => no (by rw [decide_eq_false (show ¬ rLo (cs i) ≤ 0 by omega), Bool.and_false, Bool.false_and]), fun y => k_ord ok.hi ?_⟩
  simp only [q_c, x_iload, x_lload, x_aload, q_istore, q_lstore, q_astore, q_astore2, x_iinc, q_iadd, q_isub, q_imul, q_iand, q_ior, q_ixor, q_ladd, q_lsub, q_lmul, q_land, q_lor, q_lxor, q_idiv, q_irem, q_ldiv, q_lrem, q_ineg, q_lneg, q_ishl, q_ishr, q_iushr, q_lshl, q_lshr, q_lushr, q_i2l, q_l2i, q_i2b, q_i2c, q_lcmp, q_if_eq, q_if_ne, q_if_lt, q_if_ge, q_if_gt, q_if_le, q_icmp_eq, q_icmp_ne, q_icmp_lt, q_icmp_ge, q_icmp_gt, q_icmp_le, q_dup, q_pop, q_dup_x1, q_dup2, x_iret, x_zret, x_lret, x_aret, x_vret, x_call, x_callv, x_calli, x_oinit, x_mmax, x_mmin, x_mabs, x_mmaxL, x_mminL, x_mabsL, lg_cmp_ge, lg_cmp_le, lg_cmp_gt, lg_cmp_lt, lg_cmp_eq, xlk, q_xs1, q_xs2, lv_args, Value.category, List.filter_cons, List.filter_nil, Nat.reduceAdd, Nat.reduceBEq, Nat.reduceEqDiff, Nat.reduceSub, Nat.sub_zero, beq_self_eq_true, Bool.not_true, Bool.not_false, Bool.and_true, Bool.and_false, Bool.true_and, Bool.false_and, reduceIte, reduceCtorEq, Bool.false_eq_true, Nat.one_ne_zero, Nat.zero_ne_one, Nat.zero_add, Option.toList_some, Option.toList_none, List.nil_append, List.cons_append, List.take_succ_cons, List.take_zero, List.take_nil, List.drop_succ_cons, List.drop_zero, List.length_cons, List.length_nil, List.reverse_cons, List.reverse_nil, List.head?_cons, List.map_cons, List.map_nil, List.sum_cons, List.sum_nil, true_and, and_true, List.getElem?_cons_zero, List.getElem?_cons_succ, Prod.eta, x_get, x_put, x_iald, x_iast, x_bald, x_bast, x_lald, x_last, x_alen, xup_s, xup_a1, xup_1a, xup_uu, nr_i, nr_l, nr_o, nr_a, ft_i, ft_l, ft_o, ft_a, Nat.reduceLT, i_cl0, i_cl1, i_n1, i_m1, List.set_cons_zero, List.set_cons_succ, Nat.reduceLeDiff, Nat.le_refl, Nat.zero_le, Nat.add_zero, x_no, x_ifnull, x_ifnonnull, x_acmp_eq, x_acmp_ne, x_swl, x_tsw, x_castC, true_or, or_true, nr_z, ft_z, nr_z0, nr_z1, ft_z0, ft_z1, nr_on, nr_an, ft_on, ft_an, lz_lt0 ok.hi]
  exact ⟨fun x => no (by rw [decide_eq_false (show ¬ 0 ≤ rHi (cs i) by omega), Bool.and_false]), fun x => yes (by rw [z, decide_eq_true (show rLo (cs i) ≤ 0 by omega), decide_eq_true (show 0 ≤ rHi (cs i) by omega)]; rfl)⟩
def su (s : Nat → Value) (i : Nat) (v : Value) : Nat → Value := fun j => if j = i then v else s j
def kC (m : Nat) (nn : Bool) (lo hi : Int) : vC := if m = 0 then (0, 0, 0) else if nn = true then (m, 9218868437227405312, -9218868437227405312) else (m, lo, hi)
def cU (cs : Nat → vC) (n : Nat) (c : vC) : Nat → vC := fun i => if i = n then c else cs i
theorem lNAN : (9221120237041090560 : Int64) = lN (foB 9221120237041090560) := by decide
theorem kC_lo {m : Nat} {nn : Bool} {lo hi : Int} : rLo (kC m nn lo hi) = if m = 0 then 9221120237041090560 else if nn = true then 9218868437227405312 else lo := by
  unfold kC rLo
  by_cases a : m = 0
  · rw [if_pos a, if_pos a, if_pos rfl]
  · rw [if_neg a, if_neg a]
    split <;> rfl
theorem kC_hi {m : Nat} {nn : Bool} {lo hi : Int} : rHi (kC m nn lo hi) = if m = 0 then 9221120237041090560 else if nn = true then -9218868437227405312 else hi := by
  unfold kC rHi
  by_cases a : m = 0
  · rw [if_pos a, if_pos a, if_pos rfl]
  · rw [if_neg a, if_neg a]
    split <;> rfl
theorem kC_m {m : Nat} {nn : Bool} {lo hi : Int} : (kC m nn lo hi).1 = m := by
  unfold kC
  split
  · rename_i z
    exact z.symm
  · split <;> rfl
theorem dX14_keep_0 : decode cX14_keep 0 = .ok (.aload_n 0, 1) := by decide +kernel
theorem dX14_keep_1 : decode cX14_keep 1 = .ok (.getfield 129, 3) := by decide +kernel
theorem dX14_keep_4 : decode cX14_keep 4 = .ok (.aload_n 0, 1) := by decide +kernel
theorem dX14_keep_5 : decode cX14_keep 5 = .ok (.getfield 163, 3) := by decide +kernel
theorem dX14_keep_8 : decode cX14_keep 8 = .ok (.iload_n 1, 1) := by decide +kernel
theorem dX14_keep_9 : decode cX14_keep 9 = .ok (.ifCond .ne 9, 3) := by decide +kernel
theorem dX14_keep_12 : decode cX14_keep 12 = .ok (.ldc2_w 166, 3) := by decide +kernel
theorem dX14_keep_15 : decode cX14_keep 15 = .ok (.goto 20, 3) := by decide +kernel
theorem dX14_keep_18 : decode cX14_keep 18 = .ok (.aload_n 0, 1) := by decide +kernel
theorem dX14_keep_19 : decode cX14_keep 19 = .ok (.getfield 168, 3) := by decide +kernel
theorem dX14_keep_22 : decode cX14_keep 22 = .ok (.ifCond .eq 9, 3) := by decide +kernel
theorem dX14_keep_25 : decode cX14_keep 25 = .ok (.ldc2_w 61, 3) := by decide +kernel
theorem dX14_keep_28 : decode cX14_keep 28 = .ok (.goto 7, 3) := by decide +kernel
theorem dX14_keep_31 : decode cX14_keep 31 = .ok (.aload_n 0, 1) := by decide +kernel
theorem dX14_keep_32 : decode cX14_keep 32 = .ok (.getfield 171, 3) := by decide +kernel
theorem dX14_keep_35 : decode cX14_keep 35 = .ok (.lastore, 1) := by decide +kernel
theorem dX14_keep_36 : decode cX14_keep 36 = .ok (.aload_n 0, 1) := by decide +kernel
theorem dX14_keep_37 : decode cX14_keep 37 = .ok (.getfield 133, 3) := by decide +kernel
theorem dX14_keep_40 : decode cX14_keep 40 = .ok (.aload_n 0, 1) := by decide +kernel
theorem dX14_keep_41 : decode cX14_keep 41 = .ok (.getfield 163, 3) := by decide +kernel
theorem dX14_keep_44 : decode cX14_keep 44 = .ok (.iload_n 1, 1) := by decide +kernel
theorem dX14_keep_45 : decode cX14_keep 45 = .ok (.ifCond .ne 9, 3) := by decide +kernel
theorem dX14_keep_48 : decode cX14_keep 48 = .ok (.ldc2_w 166, 3) := by decide +kernel
theorem dX14_keep_51 : decode cX14_keep 51 = .ok (.goto 20, 3) := by decide +kernel
theorem dX14_keep_54 : decode cX14_keep 54 = .ok (.aload_n 0, 1) := by decide +kernel
theorem dX14_keep_55 : decode cX14_keep 55 = .ok (.getfield 168, 3) := by decide +kernel
theorem dX14_keep_58 : decode cX14_keep 58 = .ok (.ifCond .eq 9, 3) := by decide +kernel
theorem dX14_keep_61 : decode cX14_keep 61 = .ok (.ldc2_w 78, 3) := by decide +kernel
theorem dX14_keep_64 : decode cX14_keep 64 = .ok (.goto 7, 3) := by decide +kernel
theorem dX14_keep_67 : decode cX14_keep 67 = .ok (.aload_n 0, 1) := by decide +kernel
theorem dX14_keep_68 : decode cX14_keep 68 = .ok (.getfield 175, 3) := by decide +kernel
theorem dX14_keep_71 : decode cX14_keep 71 = .ok (.lastore, 1) := by decide +kernel
theorem dX14_keep_72 : decode cX14_keep 72 = .ok (.aload_n 0, 1) := by decide +kernel
theorem dX14_keep_73 : decode cX14_keep 73 = .ok (.getfield 136, 3) := by decide +kernel
theorem dX14_keep_76 : decode cX14_keep 76 = .ok (.aload_n 0, 1) := by decide +kernel
theorem dX14_keep_77 : decode cX14_keep 77 = .ok (.getfield 163, 3) := by decide +kernel
theorem dX14_keep_80 : decode cX14_keep 80 = .ok (.iload_n 1, 1) := by decide +kernel
theorem dX14_keep_81 : decode cX14_keep 81 = .ok (.iastore, 1) := by decide +kernel
theorem dX14_keep_82 : decode cX14_keep 82 = .ok (.aload_n 0, 1) := by decide +kernel
theorem dX14_keep_83 : decode cX14_keep 83 = .ok (.dup, 1) := by decide +kernel
theorem dX14_keep_84 : decode cX14_keep 84 = .ok (.getfield 163, 3) := by decide +kernel
theorem dX14_keep_87 : decode cX14_keep 87 = .ok (.iconst 1, 1) := by decide +kernel
theorem dX14_keep_88 : decode cX14_keep 88 = .ok (.iadd, 1) := by decide +kernel
theorem dX14_keep_89 : decode cX14_keep 89 = .ok (.putfield 163, 3) := by decide +kernel
theorem dX14_keep_92 : decode cX14_keep 92 = .ok (.aload_n 0, 1) := by decide +kernel
theorem dX14_keep_93 : decode cX14_keep 93 = .ok (.getfield 163, 3) := by decide +kernel
theorem dX14_keep_96 : decode cX14_keep 96 = .ok (.iconst 1, 1) := by decide +kernel
theorem dX14_keep_97 : decode cX14_keep 97 = .ok (.isub, 1) := by decide +kernel
theorem dX14_keep_98 : decode cX14_keep 98 = .ok (.ireturn, 1) := by decide +kernel
abbrev r_X14_keep : Room := { frames := 0, cells := 0, slots := 0, locals := 0 }
abbrev m_X14_keep : xMd := (cX14_keep, RX14, 2, (some FieldType.int), false, r_X14_keep)
def b_X14_keep_71 (Q : xQ) : xK := x_last <| x_aload 0 <| x_get 13 14 <| x_aload 0 <| x_get 13 11 <| x_iload 1 <| x_iast <| x_aload 0 <| x_dup <| x_get 13 11 <| x_c (.int 1) <| x_iadd <| x_put 13 11 .int <| x_aload 0 <| x_get 13 11 <| x_c (.int 1) <| x_isub <| x_iret Q
def b_X14_keep_35 (Q : xQ) : xK := x_last <| x_aload 0 <| x_get 13 13 <| x_aload 0 <| x_get 13 11 <| x_iload 1 <| x_if_ne (x_aload 0 <| x_get 13 16 <| x_if_eq (x_aload 0 <| x_get 13 18 <| (b_X14_keep_71 Q)) <| x_c (.long (-4503599627370496)) <| (b_X14_keep_71 Q)) <| x_c (.long 9221120237041090560) <| (b_X14_keep_71 Q)
def b_X14_keep_0 (Q : xQ) : xK := x_aload 0 <| x_get 13 12 <| x_aload 0 <| x_get 13 11 <| x_iload 1 <| x_if_ne (x_aload 0 <| x_get 13 16 <| x_if_eq (x_aload 0 <| x_get 13 17 <| (b_X14_keep_35 Q)) <| x_c (.long 9218868437227405312) <| (b_X14_keep_35 Q)) <| x_c (.long 9221120237041090560) <| (b_X14_keep_35 Q)
theorem s_X14_keep_71 (G : xG) (l : Launch) (Q : xQ) : xW G l m_X14_keep xX0 (xPm G Q r_X14_keep) 71 (b_X14_keep_71 Q) := xo_last (pc := 71) dX14_keep_71 <| xo_aload_n (pc := 72) (i := 0) dX14_keep_72 rfl <| xo_get (pc := 73) (ci := 13) (i := 14) rfl ok13 (by decide) dX14_keep_73 kw1215 <| xo_aload_n (pc := 76) (i := 0) dX14_keep_76 rfl <| xo_get (pc := 77) (ci := 13) (i := 11) rfl ok13 (by decide) dX14_keep_77 kw1212 <| xo_iload_n (pc := 80) (i := 1) dX14_keep_80 rfl <| xo_iast (pc := 81) dX14_keep_81 <| xo_aload_n (pc := 82) (i := 0) dX14_keep_82 rfl <| xo_dup (pc := 83) dX14_keep_83 <| xo_get (pc := 84) (ci := 13) (i := 11) rfl ok13 (by decide) dX14_keep_84 kw1212 <| xo_iconst (pc := 87) dX14_keep_87 (by decide) <| xo_iadd (pc := 88) dX14_keep_88 <| xo_put (pc := 89) (ci := 13) (i := 11) rfl ok13 (by decide) rfl rfl dX14_keep_89 kw1212 <| xo_aload_n (pc := 92) (i := 0) dX14_keep_92 rfl <| xo_get (pc := 93) (ci := 13) (i := 11) rfl ok13 (by decide) dX14_keep_93 kw1212 <| xo_iconst (pc := 96) dX14_keep_96 (by decide) <| xo_isub (pc := 97) dX14_keep_97 <| xo_iret (pc := 98) rfl dX14_keep_98
theorem s_X14_keep_35 (G : xG) (l : Launch) (Q : xQ) : xW G l m_X14_keep xX0 (xPm G Q r_X14_keep) 35 (b_X14_keep_35 Q) := xo_last (pc := 35) dX14_keep_35 <| xo_aload_n (pc := 36) (i := 0) dX14_keep_36 rfl <| xo_get (pc := 37) (ci := 13) (i := 13) rfl ok13 (by decide) dX14_keep_37 kw1214 <| xo_aload_n (pc := 40) (i := 0) dX14_keep_40 rfl <| xo_get (pc := 41) (ci := 13) (i := 11) rfl ok13 (by decide) dX14_keep_41 kw1212 <| xo_iload_n (pc := 44) (i := 1) dX14_keep_44 rfl <| xo_if_ne (pc := 45) (tgt := 54) dX14_keep_45 (by decide) (xo_aload_n (pc := 54) (i := 0) dX14_keep_54 rfl <| xo_get (pc := 55) (ci := 13) (i := 16) rfl ok13 (by decide) dX14_keep_55 kw1217 <| xo_if_eq (pc := 58) (tgt := 67) dX14_keep_58 (by decide) (xo_aload_n (pc := 67) (i := 0) dX14_keep_67 rfl <| xo_get (pc := 68) (ci := 13) (i := 18) rfl ok13 (by decide) dX14_keep_68 kw1219 <| (s_X14_keep_71 G l Q)) <| xo_ldc2_w (pc := 61) dX14_keep_61 kw1305 <| xo_goto (pc := 64) (tgt := 71) dX14_keep_64 (by decide) <| (s_X14_keep_71 G l Q)) <| xo_ldc2_w (pc := 48) dX14_keep_48 kw1327 <| xo_goto (pc := 51) (tgt := 71) dX14_keep_51 (by decide) <| (s_X14_keep_71 G l Q)
theorem s_X14_keep_0 (G : xG) (l : Launch) (Q : xQ) : xW G l m_X14_keep xX0 (xPm G Q r_X14_keep) 0 (b_X14_keep_0 Q) := xo_aload_n (pc := 0) (i := 0) dX14_keep_0 rfl <| xo_get (pc := 1) (ci := 13) (i := 12) rfl ok13 (by decide) dX14_keep_1 kw1213 <| xo_aload_n (pc := 4) (i := 0) dX14_keep_4 rfl <| xo_get (pc := 5) (ci := 13) (i := 11) rfl ok13 (by decide) dX14_keep_5 kw1212 <| xo_iload_n (pc := 8) (i := 1) dX14_keep_8 rfl <| xo_if_ne (pc := 9) (tgt := 18) dX14_keep_9 (by decide) (xo_aload_n (pc := 18) (i := 0) dX14_keep_18 rfl <| xo_get (pc := 19) (ci := 13) (i := 16) rfl ok13 (by decide) dX14_keep_19 kw1217 <| xo_if_eq (pc := 22) (tgt := 31) dX14_keep_22 (by decide) (xo_aload_n (pc := 31) (i := 0) dX14_keep_31 rfl <| xo_get (pc := 32) (ci := 13) (i := 17) rfl ok13 (by decide) dX14_keep_32 kw1218 <| (s_X14_keep_35 G l Q)) <| xo_ldc2_w (pc := 25) dX14_keep_25 kw1304 <| xo_goto (pc := 28) (tgt := 35) dX14_keep_28 (by decide) <| (s_X14_keep_35 G l Q)) <| xo_ldc2_w (pc := 12) dX14_keep_12 kw1327 <| xo_goto (pc := 15) (tgt := 35) dX14_keep_15 (by decide) <| (s_X14_keep_35 G l Q)

def C_X14_keep : xC := fun av S Q => ∃ (M : Nat) (s : Nat → Value) (lo hi : Int) (nn ls : Bool) (n : Nat) (cs : Nat → vC) (m : Nat), av = [.ref M, .int (nI m)] ∧ m ≤ 4 ∧ n < 3000 ∧ ms S.1 M s lo hi nn ls n cs ∧ cOk (kC m nn lo hi) ∧ ∀ h', fk h' S.1 M → ms h' M (su s 11 (.int (nI (n + 1)))) lo hi nn ls (n + 1) (cU cs n (kC m nn lo hi)) → Q (some (.int (nI n))) (h', S.2)
set_option maxHeartbeats 2000000 in
theorem cM_X14_keep (G : xG) (l : Launch) : xM G l yX14_keep cX14_keep 2 (some FieldType.int) r_X14_keep C_X14_keep := by
  refine xM_of (fun Q => b_X14_keep_0 Q) RX14 false (s_X14_keep_0 G l) (by decide) rfl (by decide) ?_
  rintro av ⟨h, S2⟩ Q ⟨M, s, lo, hi, nn, ls, n, cs, m, rfl, hm, hn, w, ok, hQ⟩
  dsimp only at *
  refine ⟨Nat.le_of_ble_eq_true rfl, ?_⟩
  obtain ⟨w1, w2, w3, w4, fl, fh, fm, cl, ch, cm, ca⟩ := id w
  have m0 : nI m = 0 ↔ m = 0 := nI_eq (b := 0) (by omega) (by decide)
  have ncl : (nI n).toNatClampNeg = n := m_cl (by omega)
  have nin : vp_in (nI n) 3000 = True := eq_true (vp_in_nI (by omega) (by decide))
  have e1 : nI n + 1 = nI (n + 1) := nI_1 n
  have e2 : nI (n + 1) - 1 = nI n := by rw [show nI (n + 1) - 1 = nI (n + 1 - 1) from pk_sub (b := 1) (by omega)]; rfl
  have wM := w1.M
  have b71 : ∀ v, v = lN (foB (rHi (kC m nn lo hi))) → b_X14_keep_71 Q [(0, .ref M), (1, .int (nI m))] [.long v, .int (nI n), .ref (M + 23)] (xup h (M + 22) (.inl (2, 3000, .inr (.inl (vp_updL fl n (lN (foB (rLo (kC m nn lo hi)))))))), S2) := by
    rintro v rfl
    have x1 : ∀ c, xup h (M + 22) c M = h M := fun c => xup_n (by omega)
    have x2 : ∀ c, xup h (M + 22) c (M + 23) = h (M + 23) := fun c => xup_n (by omega)
    have x3 : ∀ (g : xH) c, xup g (M + 23) c M = g M := fun g c => xup_n (by omega)
    have x4 : ∀ (g : xH) c, xup g (M + 23) c (M + 24) = g (M + 24) := fun g c => xup_n (by omega)
    have x5 : ∀ c, xup h (M + 22) c (M + 24) = h (M + 24) := fun c => xup_n (by omega)
    have x6 : ∀ (g : xH) c, xup g (M + 24) c M = g M := fun g c => xup_n (by omega)
    simp only [q_c, x_iload, x_lload, x_aload, q_istore, q_lstore, q_astore, q_astore2, x_iinc, q_iadd, q_isub, q_imul, q_iand, q_ior, q_ixor, q_ladd, q_lsub, q_lmul, q_land, q_lor, q_lxor, q_idiv, q_irem, q_ldiv, q_lrem, q_ineg, q_lneg, q_ishl, q_ishr, q_iushr, q_lshl, q_lshr, q_lushr, q_i2l, q_l2i, q_i2b, q_i2c, q_lcmp, q_if_eq, q_if_ne, q_if_lt, q_if_ge, q_if_gt, q_if_le, q_icmp_eq, q_icmp_ne, q_icmp_lt, q_icmp_ge, q_icmp_gt, q_icmp_le, q_dup, q_pop, q_dup_x1, q_dup2, x_iret, x_zret, x_lret, x_aret, x_vret, x_call, x_callv, x_calli, x_oinit, x_mmax, x_mmin, x_mabs, x_mmaxL, x_mminL, x_mabsL, lg_cmp_ge, lg_cmp_le, lg_cmp_gt, lg_cmp_lt, lg_cmp_eq, xlk, q_xs1, q_xs2, lv_args, Value.category, List.filter_cons, List.filter_nil, Nat.reduceAdd, Nat.reduceBEq, Nat.reduceEqDiff, Nat.reduceSub, Nat.sub_zero, beq_self_eq_true, Bool.not_true, Bool.not_false, Bool.and_true, Bool.and_false, Bool.true_and, Bool.false_and, reduceIte, reduceCtorEq, Bool.false_eq_true, Nat.one_ne_zero, Nat.zero_ne_one, Nat.zero_add, Option.toList_some, Option.toList_none, List.nil_append, List.cons_append, List.take_succ_cons, List.take_zero, List.take_nil, List.drop_succ_cons, List.drop_zero, List.length_cons, List.length_nil, List.reverse_cons, List.reverse_nil, List.head?_cons, List.map_cons, List.map_nil, List.sum_cons, List.sum_nil, true_and, and_true, List.getElem?_cons_zero, List.getElem?_cons_succ, Prod.eta, x_get, x_put, x_iald, x_iast, x_bald, x_bast, x_lald, x_last, x_alen, xup_s, xup_a1, xup_1a, xup_uu, nr_i, nr_l, nr_o, nr_a, ft_i, ft_l, ft_o, ft_a, Nat.reduceLT, i_cl0, i_cl1, i_n1, i_m1, List.set_cons_zero, List.set_cons_succ, Nat.reduceLeDiff, Nat.le_refl, Nat.zero_le, Nat.add_zero, x_no, x_ifnull, x_ifnonnull, x_acmp_eq, x_acmp_ne, x_swl, x_tsw, x_castC, true_or, or_true, nr_z, ft_z, nr_z0, nr_z1, ft_z0, ft_z1, nr_on, nr_an, ft_on, ft_an, b_X14_keep_71, x1, x2, x3, x4, x5, x6, wM, mF, w2, cl, ch, cm, ncl, nin, e1, e2]
    refine hQ _ ?_ ?_
    · intro q a b
      rw [xup_n (by omega), xup_n (by omega), xup_n (by omega), xup_n (by omega)]
    · have of : xoff (xup (xup (xup (xup h (M + 22) (.inl (2, 3000, .inr (.inl (vp_updL fl n (lN (foB (rLo (kC m nn lo hi))))))))) (M + 23) (.inl (2, 3000, .inr (.inl (vp_updL fh n (lN (foB (rHi (kC m nn lo hi))))))))) (M + 24) (.inl (0, 3000, .inl (upd fm n (nI m))))) M (.inr (13, mF M (su s 11 (.int (nI (n + 1)))) lo hi nn ls))) (xup h M (.inr (13, mF M (su s 11 (.int (nI (n + 1)))) lo hi nn ls))) (M + 22) (M + 25) := by
        intro q d
        by_cases e : q = M
        · rw [e, xup_s, xup_s]
        · rw [xup_n e, xup_n e, xup_n (by omega), xup_n (by omega), xup_n (by omega)]
      refine ⟨⟨xup_s, ?_, ?_⟩, rfl, by omega, ?_, vp_updL fl n (lN (foB (rLo (kC m nn lo hi)))), vp_updL fh n (lN (foB (rHi (kC m nn lo hi)))), upd fm n (nI m), ?_, ?_, ?_, ?_⟩
      · exact (w1.2.1.off (off1 (r := M)) (by omega)).off of (by omega)
      · exact (w1.2.2.m (off1 (r := M)) (by omega)).m of (by omega)
      · intro i hi'
        unfold cU
        split
        · exact ok
        · exact w4 i (by omega)
      · rw [xup_n (by omega), xup_n (by omega), xup_n (by omega), xup_s]
      · rw [xup_n (by omega), xup_n (by omega), xup_s]
      · rw [xup_n (by omega), xup_s]
      · intro i hi'
        unfold cU vp_updL upd
        by_cases e : i = n
        · rw [if_pos e, if_pos e, if_pos e, if_pos e, kC_m]
          exact ⟨rfl, rfl, rfl⟩
        · rw [if_neg e, if_neg e, if_neg e, if_neg e]
          exact ca i (by omega)
  have b35 : ∀ v, v = lN (foB (rLo (kC m nn lo hi))) → b_X14_keep_35 Q [(0, .ref M), (1, .int (nI m))] [.long v, .int (nI n), .ref (M + 22)] (h, S2) := by
    rintro v rfl
    have x1 : ∀ c, xup h (M + 22) c M = h M := fun c => xup_n (by omega)
    simp only [q_c, x_iload, x_lload, x_aload, q_istore, q_lstore, q_astore, q_astore2, x_iinc, q_iadd, q_isub, q_imul, q_iand, q_ior, q_ixor, q_ladd, q_lsub, q_lmul, q_land, q_lor, q_lxor, q_idiv, q_irem, q_ldiv, q_lrem, q_ineg, q_lneg, q_ishl, q_ishr, q_iushr, q_lshl, q_lshr, q_lushr, q_i2l, q_l2i, q_i2b, q_i2c, q_lcmp, q_if_eq, q_if_ne, q_if_lt, q_if_ge, q_if_gt, q_if_le, q_icmp_eq, q_icmp_ne, q_icmp_lt, q_icmp_ge, q_icmp_gt, q_icmp_le, q_dup, q_pop, q_dup_x1, q_dup2, x_iret, x_zret, x_lret, x_aret, x_vret, x_call, x_callv, x_calli, x_oinit, x_mmax, x_mmin, x_mabs, x_mmaxL, x_mminL, x_mabsL, lg_cmp_ge, lg_cmp_le, lg_cmp_gt, lg_cmp_lt, lg_cmp_eq, xlk, q_xs1, q_xs2, lv_args, Value.category, List.filter_cons, List.filter_nil, Nat.reduceAdd, Nat.reduceBEq, Nat.reduceEqDiff, Nat.reduceSub, Nat.sub_zero, beq_self_eq_true, Bool.not_true, Bool.not_false, Bool.and_true, Bool.and_false, Bool.true_and, Bool.false_and, reduceIte, reduceCtorEq, Bool.false_eq_true, Nat.one_ne_zero, Nat.zero_ne_one, Nat.zero_add, Option.toList_some, Option.toList_none, List.nil_append, List.cons_append, List.take_succ_cons, List.take_zero, List.take_nil, List.drop_succ_cons, List.drop_zero, List.length_cons, List.length_nil, List.reverse_cons, List.reverse_nil, List.head?_cons, List.map_cons, List.map_nil, List.sum_cons, List.sum_nil, true_and, and_true, List.getElem?_cons_zero, List.getElem?_cons_succ, Prod.eta, x_get, x_put, x_iald, x_iast, x_bald, x_bast, x_lald, x_last, x_alen, xup_s, xup_a1, xup_1a, xup_uu, nr_i, nr_l, nr_o, nr_a, ft_i, ft_l, ft_o, ft_a, Nat.reduceLT, i_cl0, i_cl1, i_n1, i_m1, List.set_cons_zero, List.set_cons_succ, Nat.reduceLeDiff, Nat.le_refl, Nat.zero_le, Nat.add_zero, x_no, x_ifnull, x_ifnonnull, x_acmp_eq, x_acmp_ne, x_swl, x_tsw, x_castC, true_or, or_true, nr_z, ft_z, nr_z0, nr_z1, ft_z0, ft_z1, nr_on, nr_an, ft_on, ft_an, b_X14_keep_35, x1, wM, mF, w2, cl, ncl, nin, m0, bI_e0]
    refine ⟨fun z => ⟨fun y => b71 _ ?_, fun y => b71 _ ?_⟩, fun z => b71 _ ?_⟩
    · rw [kC_hi, if_neg z, if_neg (by rw [y]; decide)]
    · rw [kC_hi, if_neg z, if_pos (eq_true_of_ne_false y), lMINF]
    · rw [kC_hi, if_pos z, lNAN]
  simp only [q_c, x_iload, x_lload, x_aload, q_istore, q_lstore, q_astore, q_astore2, x_iinc, q_iadd, q_isub, q_imul, q_iand, q_ior, q_ixor, q_ladd, q_lsub, q_lmul, q_land, q_lor, q_lxor, q_idiv, q_irem, q_ldiv, q_lrem, q_ineg, q_lneg, q_ishl, q_ishr, q_iushr, q_lshl, q_lshr, q_lushr, q_i2l, q_l2i, q_i2b, q_i2c, q_lcmp, q_if_eq, q_if_ne, q_if_lt, q_if_ge, q_if_gt, q_if_le, q_icmp_eq, q_icmp_ne, q_icmp_lt, q_icmp_ge, q_icmp_gt, q_icmp_le, q_dup, q_pop, q_dup_x1, q_dup2, x_iret, x_zret, x_lret, x_aret, x_vret, x_call, x_callv, x_calli, x_oinit, x_mmax, x_mmin, x_mabs, x_mmaxL, x_mminL, x_mabsL, lg_cmp_ge, lg_cmp_le, lg_cmp_gt, lg_cmp_lt, lg_cmp_eq, xlk, q_xs1, q_xs2, lv_args, Value.category, List.filter_cons, List.filter_nil, Nat.reduceAdd, Nat.reduceBEq, Nat.reduceEqDiff, Nat.reduceSub, Nat.sub_zero, beq_self_eq_true, Bool.not_true, Bool.not_false, Bool.and_true, Bool.and_false, Bool.true_and, Bool.false_and, reduceIte, reduceCtorEq, Bool.false_eq_true, Nat.one_ne_zero, Nat.zero_ne_one, Nat.zero_add, Option.toList_some, Option.toList_none, List.nil_append, List.cons_append, List.take_succ_cons, List.take_zero, List.take_nil, List.drop_succ_cons, List.drop_zero, List.length_cons, List.length_nil, List.reverse_cons, List.reverse_nil, List.head?_cons, List.map_cons, List.map_nil, List.sum_cons, List.sum_nil, true_and, and_true, List.getElem?_cons_zero, List.getElem?_cons_succ, Prod.eta, x_get, x_put, x_iald, x_iast, x_bald, x_bast, x_lald, x_last, x_alen, xup_s, xup_a1, xup_1a, xup_uu, nr_i, nr_l, nr_o, nr_a, ft_i, ft_l, ft_o, ft_a, Nat.reduceLT, i_cl0, i_cl1, i_n1, i_m1, List.set_cons_zero, List.set_cons_succ, Nat.reduceLeDiff, Nat.le_refl, Nat.zero_le, Nat.add_zero, x_no, x_ifnull, x_ifnonnull, x_acmp_eq, x_acmp_ne, x_swl, x_tsw, x_castC, true_or, or_true, nr_z, ft_z, nr_z0, nr_z1, ft_z0, ft_z1, nr_on, nr_an, ft_on, ft_an, b_X14_keep_0, wM, mF, w2, m0, bI_e0]
  refine ⟨fun z => ⟨fun y => b35 _ ?_, fun y => b35 _ ?_⟩, fun z => b35 _ ?_⟩
  · rw [kC_lo, if_neg z, if_neg (by rw [y]; decide)]
  · rw [kC_lo, if_neg z, if_pos (eq_true_of_ne_false y), lINF]
  · rw [kC_lo, if_pos z, lNAN]
theorem dX14_isBounded_0 : decode cX14_isBounded 0 = .ok (.aload_n 0, 1) := by decide +kernel
theorem dX14_isBounded_1 : decode cX14_isBounded 1 = .ok (.getfield 168, 3) := by decide +kernel
theorem dX14_isBounded_4 : decode cX14_isBounded 4 = .ok (.ifCond .ne 27, 3) := by decide +kernel
theorem dX14_isBounded_7 : decode cX14_isBounded 7 = .ok (.aload_n 0, 1) := by decide +kernel
theorem dX14_isBounded_8 : decode cX14_isBounded 8 = .ok (.getfield 171, 3) := by decide +kernel
theorem dX14_isBounded_11 : decode cX14_isBounded 11 = .ok (.invokestatic 178, 3) := by decide +kernel
theorem dX14_isBounded_14 : decode cX14_isBounded 14 = .ok (.ifCond .ne 17, 3) := by decide +kernel
theorem dX14_isBounded_17 : decode cX14_isBounded 17 = .ok (.aload_n 0, 1) := by decide +kernel
theorem dX14_isBounded_18 : decode cX14_isBounded 18 = .ok (.getfield 175, 3) := by decide +kernel
theorem dX14_isBounded_21 : decode cX14_isBounded 21 = .ok (.invokestatic 178, 3) := by decide +kernel
theorem dX14_isBounded_24 : decode cX14_isBounded 24 = .ok (.ifCond .ne 7, 3) := by decide +kernel
theorem dX14_isBounded_27 : decode cX14_isBounded 27 = .ok (.iconst 1, 1) := by decide +kernel
theorem dX14_isBounded_28 : decode cX14_isBounded 28 = .ok (.goto 4, 3) := by decide +kernel
theorem dX14_isBounded_31 : decode cX14_isBounded 31 = .ok (.iconst 0, 1) := by decide +kernel
theorem dX14_isBounded_32 : decode cX14_isBounded 32 = .ok (.ireturn, 1) := by decide +kernel
abbrev r_X14_isBounded : Room := { frames := 1, cells := 0, slots := 0, locals := 21 }
abbrev m_X14_isBounded : xMd := (cX14_isBounded, RX14, 1, (some FieldType.boolean), false, r_X14_isBounded)
def b_X14_isBounded_32 (Q : xQ) : xK := x_zret FieldType.boolean Q
def b_X14_isBounded_31 (Q : xQ) : xK := x_c (.int 0) <| (b_X14_isBounded_32 Q)
def b_X14_isBounded_0 (Q : xQ) : xK := x_aload 0 <| x_get 13 16 <| x_if_ne ((b_X14_isBounded_31 Q)) <| x_aload 0 <| x_get 13 17 <| x_call C_X14_isInfinite 1 0 0 <| x_if_ne ((b_X14_isBounded_31 Q)) <| x_aload 0 <| x_get 13 18 <| x_call C_X14_isInfinite 1 0 0 <| x_if_ne ((b_X14_isBounded_31 Q)) <| x_c (.int 1) <| (b_X14_isBounded_32 Q)
theorem s_X14_isBounded_32 (G : xG) (l : Launch) (Q : xQ) : xW G l m_X14_isBounded xX0 (xPm G Q r_X14_isBounded) 32 (b_X14_isBounded_32 Q) := xo_zret (pc := 32) rfl dX14_isBounded_32
theorem s_X14_isBounded_31 (G : xG) (l : Launch) (Q : xQ) : xW G l m_X14_isBounded xX0 (xPm G Q r_X14_isBounded) 31 (b_X14_isBounded_31 Q) := xo_iconst (pc := 31) dX14_isBounded_31 (by decide) <| (s_X14_isBounded_32 G l Q)
theorem s_X14_isBounded_0 (G : xG) (l : Launch) (Q : xQ) : xW G l m_X14_isBounded xX0 (xPm G Q r_X14_isBounded) 0 (b_X14_isBounded_0 Q) := xo_aload_n (pc := 0) (i := 0) dX14_isBounded_0 rfl <| xo_get (pc := 1) (ci := 13) (i := 16) rfl ok13 (by decide) dX14_isBounded_1 kw1217 <| xo_if_ne (pc := 4) (tgt := 31) dX14_isBounded_4 (by decide) ((s_X14_isBounded_31 G l Q)) <| xo_aload_n (pc := 7) (i := 0) dX14_isBounded_7 rfl <| xo_get (pc := 8) (ci := 13) (i := 17) rfl ok13 (by decide) dX14_isBounded_8 kw1218 <| xo_callS (pc := 11) (np := 1) (cM_X14_isInfinite G l) dX14_isBounded_11 kw1322 kw1320 kw1321 kw13 (by decide +kernel) (by decide) <| xo_if_ne (pc := 14) (tgt := 31) dX14_isBounded_14 (by decide) ((s_X14_isBounded_31 G l Q)) <| xo_aload_n (pc := 17) (i := 0) dX14_isBounded_17 rfl <| xo_get (pc := 18) (ci := 13) (i := 18) rfl ok13 (by decide) dX14_isBounded_18 kw1219 <| xo_callS (pc := 21) (np := 1) (cM_X14_isInfinite G l) dX14_isBounded_21 kw1322 kw1320 kw1321 kw13 (by decide +kernel) (by decide) <| xo_if_ne (pc := 24) (tgt := 31) dX14_isBounded_24 (by decide) ((s_X14_isBounded_31 G l Q)) <| xo_iconst (pc := 27) dX14_isBounded_27 (by decide) <| xo_goto (pc := 28) (tgt := 32) dX14_isBounded_28 (by decide) <| (s_X14_isBounded_32 G l Q)

def ibB (nn : Bool) (lo hi : Int) : Bool := !nn && !iN lo && !iN hi
def C_X14_isBounded : xC := fun av S Q => ∃ (M : Nat) (s : Nat → Value) (lo hi : Int) (nn ls : Bool), av = [.ref M] ∧ mo S.1 M s lo hi nn ls ∧ oF lo ∧ oF hi ∧ Q (some (.int (bI (ibB nn lo hi)))) S
theorem cM_X14_isBounded (G : xG) (l : Launch) : xM G l yX14_isBounded cX14_isBounded 1 (some FieldType.boolean) r_X14_isBounded C_X14_isBounded := by
  refine xM_of (fun Q => b_X14_isBounded_0 Q) RX14 false (s_X14_isBounded_0 G l) (by decide) rfl (by decide) ?_
  rintro av ⟨h, S2⟩ Q ⟨M, s, lo, hi, nn, ls, rfl, w, hlo, hhi, hQ⟩
  dsimp only at *
  refine ⟨Nat.le_of_ble_eq_true rfl, ?_⟩
  have wM : h M = some (.inr (13, mF M s lo hi nn ls)) := w
  have yes : ibB nn lo hi = true → Q (some (.int 1)) (h, S2) := fun e => by rw [e] at hQ; exact hQ
  have no : ibB nn lo hi = false → Q (some (.int 0)) (h, S2) := fun e => by rw [e] at hQ; exact hQ
  unfold ibB at yes no
  simp only [q_c, x_iload, x_lload, x_aload, q_istore, q_lstore, q_astore, q_astore2, x_iinc, q_iadd, q_isub, q_imul, q_iand, q_ior, q_ixor, q_ladd, q_lsub, q_lmul, q_land, q_lor, q_lxor, q_idiv, q_irem, q_ldiv, q_lrem, q_ineg, q_lneg, q_ishl, q_ishr, q_iushr, q_lshl, q_lshr, q_lushr, q_i2l, q_l2i, q_i2b, q_i2c, q_lcmp, q_if_eq, q_if_ne, q_if_lt, q_if_ge, q_if_gt, q_if_le, q_icmp_eq, q_icmp_ne, q_icmp_lt, q_icmp_ge, q_icmp_gt, q_icmp_le, q_dup, q_pop, q_dup_x1, q_dup2, x_iret, x_zret, x_lret, x_aret, x_vret, x_call, x_callv, x_calli, x_oinit, x_mmax, x_mmin, x_mabs, x_mmaxL, x_mminL, x_mabsL, lg_cmp_ge, lg_cmp_le, lg_cmp_gt, lg_cmp_lt, lg_cmp_eq, xlk, q_xs1, q_xs2, lv_args, Value.category, List.filter_cons, List.filter_nil, Nat.reduceAdd, Nat.reduceBEq, Nat.reduceEqDiff, Nat.reduceSub, Nat.sub_zero, beq_self_eq_true, Bool.not_true, Bool.not_false, Bool.and_true, Bool.and_false, Bool.true_and, Bool.false_and, reduceIte, reduceCtorEq, Bool.false_eq_true, Nat.one_ne_zero, Nat.zero_ne_one, Nat.zero_add, Option.toList_some, Option.toList_none, List.nil_append, List.cons_append, List.take_succ_cons, List.take_zero, List.take_nil, List.drop_succ_cons, List.drop_zero, List.length_cons, List.length_nil, List.reverse_cons, List.reverse_nil, List.head?_cons, List.map_cons, List.map_nil, List.sum_cons, List.sum_nil, true_and, and_true, List.getElem?_cons_zero, List.getElem?_cons_succ, Prod.eta, x_get, x_put, x_iald, x_iast, x_bald, x_bast, x_lald, x_last, x_alen, xup_s, xup_a1, xup_1a, xup_uu, nr_i, nr_l, nr_o, nr_a, ft_i, ft_l, ft_o, ft_a, Nat.reduceLT, i_cl0, i_cl1, i_n1, i_m1, List.set_cons_zero, List.set_cons_succ, Nat.reduceLeDiff, Nat.le_refl, Nat.zero_le, Nat.add_zero, x_no, x_ifnull, x_ifnonnull, x_acmp_eq, x_acmp_ne, x_swl, x_tsw, x_castC, true_or, or_true, nr_z, ft_z, nr_z0, nr_z1, ft_z0, ft_z1, nr_on, nr_an, ft_on, ft_an, b_X14_isBounded_0, b_X14_isBounded_31, b_X14_isBounded_32, wM, mF, bI_e0]
  refine ⟨fun z => no (by rw [eq_true_of_ne_false z]; rfl), fun z => k_inf hlo ?_⟩
  simp only [q_c, x_iload, x_lload, x_aload, q_istore, q_lstore, q_astore, q_astore2, x_iinc, q_iadd, q_isub, q_imul, q_iand, q_ior, q_ixor, q_ladd, q_lsub, q_lmul, q_land, q_lor, q_lxor, q_idiv, q_irem, q_ldiv, q_lrem, q_ineg, q_lneg, q_ishl, q_ishr, q_iushr, q_lshl, q_lshr, q_lushr, q_i2l, q_l2i, q_i2b, q_i2c, q_lcmp, q_if_eq, q_if_ne, q_if_lt, q_if_ge, q_if_gt, q_if_le, q_icmp_eq, q_icmp_ne, q_icmp_lt, q_icmp_ge, q_icmp_gt, q_icmp_le, q_dup, q_pop, q_dup_x1, q_dup2, x_iret, x_zret, x_lret, x_aret, x_vret, x_call, x_callv, x_calli, x_oinit, x_mmax, x_mmin, x_mabs, x_mmaxL, x_mminL, x_mabsL, lg_cmp_ge, lg_cmp_le, lg_cmp_gt, lg_cmp_lt, lg_cmp_eq, xlk, q_xs1, q_xs2, lv_args, Value.category, List.filter_cons, List.filter_nil, Nat.reduceAdd, Nat.reduceBEq, Nat.reduceEqDiff, Nat.reduceSub, Nat.sub_zero, beq_self_eq_true, Bool.not_true, Bool.not_false, Bool.and_true, Bool.and_false, Bool.true_and, Bool.false_and, reduceIte, reduceCtorEq, Bool.false_eq_true, Nat.one_ne_zero, Nat.zero_ne_one, Nat.zero_add, Option.toList_some, Option.toList_none, List.nil_append, List.cons_append, List.take_succ_cons, List.take_zero, List.take_nil, List.drop_succ_cons, List.drop_zero, List.length_cons, List.length_nil, List.reverse_cons, List.reverse_nil, List.head?_cons, List.map_cons, List.map_nil, List.sum_cons, List.sum_nil, true_and, and_true, List.getElem?_cons_zero, List.getElem?_cons_succ, Prod.eta, x_get, x_put, x_iald, x_iast, x_bald, x_bast, x_lald, x_last, x_alen, xup_s, xup_a1, xup_1a, xup_uu, nr_i, nr_l, nr_o, nr_a, ft_i, ft_l, ft_o, ft_a, Nat.reduceLT, i_cl0, i_cl1, i_n1, i_m1, List.set_cons_zero, List.set_cons_succ, Nat.reduceLeDiff, Nat.le_refl, Nat.zero_le, Nat.add_zero, x_no, x_ifnull, x_ifnonnull, x_acmp_eq, x_acmp_ne, x_swl, x_tsw, x_castC, true_or, or_true, nr_z, ft_z, nr_z0, nr_z1, ft_z0, ft_z1, nr_on, nr_an, ft_on, ft_an, wM, mF, bI_e0]
  refine ⟨fun y => no (by rw [eq_true_of_ne_false y, Bool.not_true, Bool.and_false, Bool.false_and]), fun y => k_inf hhi ?_⟩
  simp only [q_c, x_iload, x_lload, x_aload, q_istore, q_lstore, q_astore, q_astore2, x_iinc, q_iadd, q_isub, q_imul, q_iand, q_ior, q_ixor, q_ladd, q_lsub, q_lmul, q_land, q_lor, q_lxor, q_idiv, q_irem, q_ldiv, q_lrem, q_ineg, q_lneg, q_ishl, q_ishr, q_iushr, q_lshl, q_lshr, q_lushr, q_i2l, q_l2i, q_i2b, q_i2c, q_lcmp, q_if_eq, q_if_ne, q_if_lt, q_if_ge, q_if_gt, q_if_le, q_icmp_eq, q_icmp_ne, q_icmp_lt, q_icmp_ge, q_icmp_gt, q_icmp_le, q_dup, q_pop, q_dup_x1, q_dup2, x_iret, x_zret, x_lret, x_aret, x_vret, x_call, x_callv, x_calli, x_oinit, x_mmax, x_mmin, x_mabs, x_mmaxL, x_mminL, x_mabsL, lg_cmp_ge, lg_cmp_le, lg_cmp_gt, lg_cmp_lt, lg_cmp_eq, xlk, q_xs1, q_xs2, lv_args, Value.category, List.filter_cons, List.filter_nil, Nat.reduceAdd, Nat.reduceBEq, Nat.reduceEqDiff, Nat.reduceSub, Nat.sub_zero, beq_self_eq_true, Bool.not_true, Bool.not_false, Bool.and_true, Bool.and_false, Bool.true_and, Bool.false_and, reduceIte, reduceCtorEq, Bool.false_eq_true, Nat.one_ne_zero, Nat.zero_ne_one, Nat.zero_add, Option.toList_some, Option.toList_none, List.nil_append, List.cons_append, List.take_succ_cons, List.take_zero, List.take_nil, List.drop_succ_cons, List.drop_zero, List.length_cons, List.length_nil, List.reverse_cons, List.reverse_nil, List.head?_cons, List.map_cons, List.map_nil, List.sum_cons, List.sum_nil, true_and, and_true, List.getElem?_cons_zero, List.getElem?_cons_succ, Prod.eta, x_get, x_put, x_iald, x_iast, x_bald, x_bast, x_lald, x_last, x_alen, xup_s, xup_a1, xup_1a, xup_uu, nr_i, nr_l, nr_o, nr_a, ft_i, ft_l, ft_o, ft_a, Nat.reduceLT, i_cl0, i_cl1, i_n1, i_m1, List.set_cons_zero, List.set_cons_succ, Nat.reduceLeDiff, Nat.le_refl, Nat.zero_le, Nat.add_zero, x_no, x_ifnull, x_ifnonnull, x_acmp_eq, x_acmp_ne, x_swl, x_tsw, x_castC, true_or, or_true, nr_z, ft_z, nr_z0, nr_z1, ft_z0, ft_z1, nr_on, nr_an, ft_on, ft_an, bI_e0]
  exact ⟨fun x => no (by rw [eq_true_of_ne_false x, Bool.not_true, Bool.and_false]), fun x => yes (by rw [z, y, x]; rfl)⟩
theorem dX14_strongest_0 : decode cX14_strongest 0 = .ok (.aload_n 0, 1) := by decide +kernel
theorem dX14_strongest_1 : decode cX14_strongest 1 = .ok (.getfield 168, 3) := by decide +kernel
theorem dX14_strongest_4 : decode cX14_strongest 4 = .ok (.ifCond .eq 7, 3) := by decide +kernel
theorem dX14_strongest_7 : decode cX14_strongest 7 = .ok (.iconst 1, 1) := by decide +kernel
theorem dX14_strongest_8 : decode cX14_strongest 8 = .ok (.goto 15, 3) := by decide +kernel
theorem dX14_strongest_11 : decode cX14_strongest 11 = .ok (.aload_n 0, 1) := by decide +kernel
theorem dX14_strongest_12 : decode cX14_strongest 12 = .ok (.invokevirtual 182, 3) := by decide +kernel
theorem dX14_strongest_15 : decode cX14_strongest 15 = .ok (.ifCond .eq 7, 3) := by decide +kernel
theorem dX14_strongest_18 : decode cX14_strongest 18 = .ok (.iconst 4, 1) := by decide +kernel
theorem dX14_strongest_19 : decode cX14_strongest 19 = .ok (.goto 4, 3) := by decide +kernel
theorem dX14_strongest_22 : decode cX14_strongest 22 = .ok (.iconst 3, 1) := by decide +kernel
theorem dX14_strongest_23 : decode cX14_strongest 23 = .ok (.ireturn, 1) := by decide +kernel
abbrev r_X14_strongest : Room := { frames := 2, cells := 0, slots := 0, locals := 41 }
abbrev m_X14_strongest : xMd := (cX14_strongest, RX14, 1, (some FieldType.int), false, r_X14_strongest)
def b_X14_strongest_23 (Q : xQ) : xK := x_iret Q
def b_X14_strongest_0 (Q : xQ) : xK := x_aload 0 <| x_get 13 16 <| x_if_eq (x_aload 0 <| x_callv 13 C_X14_isBounded 1 0 0 <| x_if_eq (x_c (.int 3) <| (b_X14_strongest_23 Q)) <| x_c (.int 4) <| (b_X14_strongest_23 Q)) <| x_c (.int 1) <| (b_X14_strongest_23 Q)
theorem s_X14_strongest_23 (G : xG) (l : Launch) (Q : xQ) : xW G l m_X14_strongest xX0 (xPm G Q r_X14_strongest) 23 (b_X14_strongest_23 Q) := xo_iret (pc := 23) rfl dX14_strongest_23
theorem s_X14_strongest_0 (G : xG) (l : Launch) (Q : xQ) : xW G l m_X14_strongest xX0 (xPm G Q r_X14_strongest) 0 (b_X14_strongest_0 Q) := xo_aload_n (pc := 0) (i := 0) dX14_strongest_0 rfl <| xo_get (pc := 1) (ci := 13) (i := 16) rfl ok13 (by decide) dX14_strongest_1 kw1217 <| xo_if_eq (pc := 4) (tgt := 11) dX14_strongest_4 (by decide) (xo_aload_n (pc := 11) (i := 0) dX14_strongest_11 rfl <| xo_callV (pc := 12) (np := 0) (ci := 13) rfl (cM_X14_isBounded G l) dX14_strongest_12 kw1319 kw1316 kw1318 ks49 kw13 (by decide +kernel) (by decide) <| xo_if_eq (pc := 15) (tgt := 22) dX14_strongest_15 (by decide) (xo_iconst (pc := 22) dX14_strongest_22 (by decide) <| (s_X14_strongest_23 G l Q)) <| xo_iconst (pc := 18) dX14_strongest_18 (by decide) <| xo_goto (pc := 19) (tgt := 23) dX14_strongest_19 (by decide) <| (s_X14_strongest_23 G l Q)) <| xo_iconst (pc := 7) dX14_strongest_7 (by decide) <| xo_goto (pc := 8) (tgt := 23) dX14_strongest_8 (by decide) <| (s_X14_strongest_23 G l Q)

def sgM (nn : Bool) (lo hi : Int) : Nat := if nn = true then 1 else if ibB nn lo hi = true then 4 else 3
def C_X14_strongest : xC := fun av S Q => ∃ (M : Nat) (s : Nat → Value) (lo hi : Int) (nn ls : Bool), av = [.ref M] ∧ mo S.1 M s lo hi nn ls ∧ oF lo ∧ oF hi ∧ Q (some (.int (nI (sgM nn lo hi)))) S
theorem cM_X14_strongest (G : xG) (l : Launch) : xM G l yX14_strongest cX14_strongest 1 (some FieldType.int) r_X14_strongest C_X14_strongest := by
  refine xM_of (fun Q => b_X14_strongest_0 Q) RX14 false (s_X14_strongest_0 G l) (by decide) rfl (by decide) ?_
  rintro av ⟨h, S2⟩ Q ⟨M, s, lo, hi, nn, ls, rfl, w, hlo, hhi, hQ⟩
  dsimp only at *
  refine ⟨Nat.le_of_ble_eq_true rfl, ?_⟩
  have wM : h M = some (.inr (13, mF M s lo hi nn ls)) := w
  unfold sgM at hQ
  simp only [q_c, x_iload, x_lload, x_aload, q_istore, q_lstore, q_astore, q_astore2, x_iinc, q_iadd, q_isub, q_imul, q_iand, q_ior, q_ixor, q_ladd, q_lsub, q_lmul, q_land, q_lor, q_lxor, q_idiv, q_irem, q_ldiv, q_lrem, q_ineg, q_lneg, q_ishl, q_ishr, q_iushr, q_lshl, q_lshr, q_lushr, q_i2l, q_l2i, q_i2b, q_i2c, q_lcmp, q_if_eq, q_if_ne, q_if_lt, q_if_ge, q_if_gt, q_if_le, q_icmp_eq, q_icmp_ne, q_icmp_lt, q_icmp_ge, q_icmp_gt, q_icmp_le, q_dup, q_pop, q_dup_x1, q_dup2, x_iret, x_zret, x_lret, x_aret, x_vret, x_call, x_callv, x_calli, x_oinit, x_mmax, x_mmin, x_mabs, x_mmaxL, x_mminL, x_mabsL, lg_cmp_ge, lg_cmp_le, lg_cmp_gt, lg_cmp_lt, lg_cmp_eq, xlk, q_xs1, q_xs2, lv_args, Value.category, List.filter_cons, List.filter_nil, Nat.reduceAdd, Nat.reduceBEq, Nat.reduceEqDiff, Nat.reduceSub, Nat.sub_zero, beq_self_eq_true, Bool.not_true, Bool.not_false, Bool.and_true, Bool.and_false, Bool.true_and, Bool.false_and, reduceIte, reduceCtorEq, Bool.false_eq_true, Nat.one_ne_zero, Nat.zero_ne_one, Nat.zero_add, Option.toList_some, Option.toList_none, List.nil_append, List.cons_append, List.take_succ_cons, List.take_zero, List.take_nil, List.drop_succ_cons, List.drop_zero, List.length_cons, List.length_nil, List.reverse_cons, List.reverse_nil, List.head?_cons, List.map_cons, List.map_nil, List.sum_cons, List.sum_nil, true_and, and_true, List.getElem?_cons_zero, List.getElem?_cons_succ, Prod.eta, x_get, x_put, x_iald, x_iast, x_bald, x_bast, x_lald, x_last, x_alen, xup_s, xup_a1, xup_1a, xup_uu, nr_i, nr_l, nr_o, nr_a, ft_i, ft_l, ft_o, ft_a, Nat.reduceLT, i_cl0, i_cl1, i_n1, i_m1, List.set_cons_zero, List.set_cons_succ, Nat.reduceLeDiff, Nat.le_refl, Nat.zero_le, Nat.add_zero, x_no, x_ifnull, x_ifnonnull, x_acmp_eq, x_acmp_ne, x_swl, x_tsw, x_castC, true_or, or_true, nr_z, ft_z, nr_z0, nr_z1, ft_z0, ft_z1, nr_on, nr_an, ft_on, ft_an, b_X14_strongest_0, b_X14_strongest_23, wM, mF, bI_e0]
  refine ⟨fun z => ⟨⟨_, _, rfl, wM⟩, M, s, lo, hi, nn, ls, rfl, w, hlo, hhi, ?_⟩, fun z => ?_⟩
  · rw [if_neg (by rw [z]; decide)] at hQ
    simp only [q_c, x_iload, x_lload, x_aload, q_istore, q_lstore, q_astore, q_astore2, x_iinc, q_iadd, q_isub, q_imul, q_iand, q_ior, q_ixor, q_ladd, q_lsub, q_lmul, q_land, q_lor, q_lxor, q_idiv, q_irem, q_ldiv, q_lrem, q_ineg, q_lneg, q_ishl, q_ishr, q_iushr, q_lshl, q_lshr, q_lushr, q_i2l, q_l2i, q_i2b, q_i2c, q_lcmp, q_if_eq, q_if_ne, q_if_lt, q_if_ge, q_if_gt, q_if_le, q_icmp_eq, q_icmp_ne, q_icmp_lt, q_icmp_ge, q_icmp_gt, q_icmp_le, q_dup, q_pop, q_dup_x1, q_dup2, x_iret, x_zret, x_lret, x_aret, x_vret, x_call, x_callv, x_calli, x_oinit, x_mmax, x_mmin, x_mabs, x_mmaxL, x_mminL, x_mabsL, lg_cmp_ge, lg_cmp_le, lg_cmp_gt, lg_cmp_lt, lg_cmp_eq, xlk, q_xs1, q_xs2, lv_args, Value.category, List.filter_cons, List.filter_nil, Nat.reduceAdd, Nat.reduceBEq, Nat.reduceEqDiff, Nat.reduceSub, Nat.sub_zero, beq_self_eq_true, Bool.not_true, Bool.not_false, Bool.and_true, Bool.and_false, Bool.true_and, Bool.false_and, reduceIte, reduceCtorEq, Bool.false_eq_true, Nat.one_ne_zero, Nat.zero_ne_one, Nat.zero_add, Option.toList_some, Option.toList_none, List.nil_append, List.cons_append, List.take_succ_cons, List.take_zero, List.take_nil, List.drop_succ_cons, List.drop_zero, List.length_cons, List.length_nil, List.reverse_cons, List.reverse_nil, List.head?_cons, List.map_cons, List.map_nil, List.sum_cons, List.sum_nil, true_and, and_true, List.getElem?_cons_zero, List.getElem?_cons_succ, Prod.eta, x_get, x_put, x_iald, x_iast, x_bald, x_bast, x_lald, x_last, x_alen, xup_s, xup_a1, xup_1a, xup_uu, nr_i, nr_l, nr_o, nr_a, ft_i, ft_l, ft_o, ft_a, Nat.reduceLT, i_cl0, i_cl1, i_n1, i_m1, List.set_cons_zero, List.set_cons_succ, Nat.reduceLeDiff, Nat.le_refl, Nat.zero_le, Nat.add_zero, x_no, x_ifnull, x_ifnonnull, x_acmp_eq, x_acmp_ne, x_swl, x_tsw, x_castC, true_or, or_true, nr_z, ft_z, nr_z0, nr_z1, ft_z0, ft_z1, nr_on, nr_an, ft_on, ft_an, bI_e0]
    refine ⟨fun y => ?_, fun y => ?_⟩
    · rw [if_neg (by rw [y]; decide)] at hQ
      exact hQ
    · rw [if_pos (eq_true_of_ne_false y)] at hQ
      exact hQ
  · rw [if_pos (eq_true_of_ne_false z)] at hQ
    exact hQ
theorem dX14_load_0 : decode cX14_load 0 = .ok (.aload_n 0, 1) := by decide +kernel
theorem dX14_load_1 : decode cX14_load 1 = .ok (.aload_n 0, 1) := by decide +kernel
theorem dX14_load_2 : decode cX14_load 2 = .ok (.iload_n 1, 1) := by decide +kernel
theorem dX14_load_3 : decode cX14_load 3 = .ok (.invokevirtual 185, 3) := by decide +kernel
theorem dX14_load_6 : decode cX14_load 6 = .ok (.putfield 168, 3) := by decide +kernel
theorem dX14_load_9 : decode cX14_load 9 = .ok (.aload_n 0, 1) := by decide +kernel
theorem dX14_load_10 : decode cX14_load 10 = .ok (.aload_n 0, 1) := by decide +kernel
theorem dX14_load_11 : decode cX14_load 11 = .ok (.getfield 129, 3) := by decide +kernel
theorem dX14_load_14 : decode cX14_load 14 = .ok (.iload_n 1, 1) := by decide +kernel
theorem dX14_load_15 : decode cX14_load 15 = .ok (.laload, 1) := by decide +kernel
theorem dX14_load_16 : decode cX14_load 16 = .ok (.putfield 171, 3) := by decide +kernel
theorem dX14_load_19 : decode cX14_load 19 = .ok (.aload_n 0, 1) := by decide +kernel
theorem dX14_load_20 : decode cX14_load 20 = .ok (.aload_n 0, 1) := by decide +kernel
theorem dX14_load_21 : decode cX14_load 21 = .ok (.getfield 133, 3) := by decide +kernel
theorem dX14_load_24 : decode cX14_load 24 = .ok (.iload_n 1, 1) := by decide +kernel
theorem dX14_load_25 : decode cX14_load 25 = .ok (.laload, 1) := by decide +kernel
theorem dX14_load_26 : decode cX14_load 26 = .ok (.putfield 175, 3) := by decide +kernel
theorem dX14_load_29 : decode cX14_load 29 = .ok (.return_, 1) := by decide +kernel
abbrev r_X14_load : Room := { frames := 1, cells := 0, slots := 0, locals := 21 }
abbrev m_X14_load : xMd := (cX14_load, RX14, 2, none, false, r_X14_load)
def b_X14_load_0 (Q : xQ) : xK := x_aload 0 <| x_aload 0 <| x_iload 1 <| x_callv 13 C_X14_isEmpty 2 0 0 <| x_put 13 16 .boolean <| x_aload 0 <| x_aload 0 <| x_get 13 12 <| x_iload 1 <| x_lald <| x_put 13 17 .long <| x_aload 0 <| x_aload 0 <| x_get 13 13 <| x_iload 1 <| x_lald <| x_put 13 18 .long <| x_vret Q
theorem s_X14_load_0 (G : xG) (l : Launch) (Q : xQ) : xW G l m_X14_load xX0 (xPm G Q r_X14_load) 0 (b_X14_load_0 Q) := xo_aload_n (pc := 0) (i := 0) dX14_load_0 rfl <| xo_aload_n (pc := 1) (i := 0) dX14_load_1 rfl <| xo_iload_n (pc := 2) (i := 1) dX14_load_2 rfl <| xo_callV (pc := 3) (np := 1) (ci := 13) rfl (cM_X14_isEmpty G l) dX14_load_3 kw1343 kw1340 kw1342 ks53 kw13 (by decide +kernel) (by decide) <| xo_put (pc := 6) (ci := 13) (i := 16) rfl ok13 (by decide) rfl rfl dX14_load_6 kw1217 <| xo_aload_n (pc := 9) (i := 0) dX14_load_9 rfl <| xo_aload_n (pc := 10) (i := 0) dX14_load_10 rfl <| xo_get (pc := 11) (ci := 13) (i := 12) rfl ok13 (by decide) dX14_load_11 kw1213 <| xo_iload_n (pc := 14) (i := 1) dX14_load_14 rfl <| xo_lald (pc := 15) dX14_load_15 <| xo_put (pc := 16) (ci := 13) (i := 17) rfl ok13 (by decide) rfl rfl dX14_load_16 kw1218 <| xo_aload_n (pc := 19) (i := 0) dX14_load_19 rfl <| xo_aload_n (pc := 20) (i := 0) dX14_load_20 rfl <| xo_get (pc := 21) (ci := 13) (i := 13) rfl ok13 (by decide) dX14_load_21 kw1214 <| xo_iload_n (pc := 24) (i := 1) dX14_load_24 rfl <| xo_lald (pc := 25) dX14_load_25 <| xo_put (pc := 26) (ci := 13) (i := 18) rfl ok13 (by decide) rfl rfl dX14_load_26 kw1219 <| xo_vret (pc := 29) rfl dX14_load_29

def C_X14_load : xC := fun av S Q => ∃ (M : Nat) (s : Nat → Value) (lo hi : Int) (nn ls : Bool) (n : Nat) (cs : Nat → vC) (i : Nat), av = [.ref M, .int (nI i)] ∧ i < n ∧ ms S.1 M s lo hi nn ls n cs ∧ ∀ h', fr h' S.1 M → ms h' M s (rLo (cs i)) (rHi (cs i)) (eB (cs i)) ls n cs → Q none (h', S.2)
theorem cM_X14_load (G : xG) (l : Launch) : xM G l yX14_load cX14_load 2 none r_X14_load C_X14_load := by
  refine xM_of (fun Q => b_X14_load_0 Q) RX14 false (s_X14_load_0 G l) (by decide) rfl (by decide) ?_
  rintro av ⟨h, S2⟩ Q ⟨M, s, lo, hi, nn, ls, n, cs, i, rfl, hi', w, hQ⟩
  dsimp only at *
  refine ⟨Nat.le_of_ble_eq_true rfl, ?_⟩
  obtain ⟨w1, w2, w3, w4, fl, fh, fm, cl, ch, cm, ca⟩ := id w
  obtain ⟨al, ah, am⟩ := ca i hi'
  have x1 : ∀ c, xup h M c (M + 22) = h (M + 22) := fun c => xup_n (by omega)
  have x2 : ∀ c, xup h M c (M + 23) = h (M + 23) := fun c => xup_n (by omega)
  simp only [q_c, x_iload, x_lload, x_aload, q_istore, q_lstore, q_astore, q_astore2, x_iinc, q_iadd, q_isub, q_imul, q_iand, q_ior, q_ixor, q_ladd, q_lsub, q_lmul, q_land, q_lor, q_lxor, q_idiv, q_irem, q_ldiv, q_lrem, q_ineg, q_lneg, q_ishl, q_ishr, q_iushr, q_lshl, q_lshr, q_lushr, q_i2l, q_l2i, q_i2b, q_i2c, q_lcmp, q_if_eq, q_if_ne, q_if_lt, q_if_ge, q_if_gt, q_if_le, q_icmp_eq, q_icmp_ne, q_icmp_lt, q_icmp_ge, q_icmp_gt, q_icmp_le, q_dup, q_pop, q_dup_x1, q_dup2, x_iret, x_zret, x_lret, x_aret, x_vret, x_call, x_callv, x_calli, x_oinit, x_mmax, x_mmin, x_mabs, x_mmaxL, x_mminL, x_mabsL, lg_cmp_ge, lg_cmp_le, lg_cmp_gt, lg_cmp_lt, lg_cmp_eq, xlk, q_xs1, q_xs2, lv_args, Value.category, List.filter_cons, List.filter_nil, Nat.reduceAdd, Nat.reduceBEq, Nat.reduceEqDiff, Nat.reduceSub, Nat.sub_zero, beq_self_eq_true, Bool.not_true, Bool.not_false, Bool.and_true, Bool.and_false, Bool.true_and, Bool.false_and, reduceIte, reduceCtorEq, Bool.false_eq_true, Nat.one_ne_zero, Nat.zero_ne_one, Nat.zero_add, Option.toList_some, Option.toList_none, List.nil_append, List.cons_append, List.take_succ_cons, List.take_zero, List.take_nil, List.drop_succ_cons, List.drop_zero, List.length_cons, List.length_nil, List.reverse_cons, List.reverse_nil, List.head?_cons, List.map_cons, List.map_nil, List.sum_cons, List.sum_nil, true_and, and_true, List.getElem?_cons_zero, List.getElem?_cons_succ, Prod.eta, x_get, x_put, x_iald, x_iast, x_bald, x_bast, x_lald, x_last, x_alen, xup_s, xup_a1, xup_1a, xup_uu, nr_i, nr_l, nr_o, nr_a, ft_i, ft_l, ft_o, ft_a, Nat.reduceLT, i_cl0, i_cl1, i_n1, i_m1, List.set_cons_zero, List.set_cons_succ, Nat.reduceLeDiff, Nat.le_refl, Nat.zero_le, Nat.add_zero, x_no, x_ifnull, x_ifnonnull, x_acmp_eq, x_acmp_ne, x_swl, x_tsw, x_castC, true_or, or_true, nr_z, ft_z, nr_z0, nr_z1, ft_z0, ft_z1, nr_on, nr_an, ft_on, ft_an, b_X14_load_0]
  refine k_isEmpty w hi' ?_
  simp only [q_c, x_iload, x_lload, x_aload, q_istore, q_lstore, q_astore, q_astore2, x_iinc, q_iadd, q_isub, q_imul, q_iand, q_ior, q_ixor, q_ladd, q_lsub, q_lmul, q_land, q_lor, q_lxor, q_idiv, q_irem, q_ldiv, q_lrem, q_ineg, q_lneg, q_ishl, q_ishr, q_iushr, q_lshl, q_lshr, q_lushr, q_i2l, q_l2i, q_i2b, q_i2c, q_lcmp, q_if_eq, q_if_ne, q_if_lt, q_if_ge, q_if_gt, q_if_le, q_icmp_eq, q_icmp_ne, q_icmp_lt, q_icmp_ge, q_icmp_gt, q_icmp_le, q_dup, q_pop, q_dup_x1, q_dup2, x_iret, x_zret, x_lret, x_aret, x_vret, x_call, x_callv, x_calli, x_oinit, x_mmax, x_mmin, x_mabs, x_mmaxL, x_mminL, x_mabsL, lg_cmp_ge, lg_cmp_le, lg_cmp_gt, lg_cmp_lt, lg_cmp_eq, xlk, q_xs1, q_xs2, lv_args, Value.category, List.filter_cons, List.filter_nil, Nat.reduceAdd, Nat.reduceBEq, Nat.reduceEqDiff, Nat.reduceSub, Nat.sub_zero, beq_self_eq_true, Bool.not_true, Bool.not_false, Bool.and_true, Bool.and_false, Bool.true_and, Bool.false_and, reduceIte, reduceCtorEq, Bool.false_eq_true, Nat.one_ne_zero, Nat.zero_ne_one, Nat.zero_add, Option.toList_some, Option.toList_none, List.nil_append, List.cons_append, List.take_succ_cons, List.take_zero, List.take_nil, List.drop_succ_cons, List.drop_zero, List.length_cons, List.length_nil, List.reverse_cons, List.reverse_nil, List.head?_cons, List.map_cons, List.map_nil, List.sum_cons, List.sum_nil, true_and, and_true, List.getElem?_cons_zero, List.getElem?_cons_succ, Prod.eta, x_get, x_put, x_iald, x_iast, x_bald, x_bast, x_lald, x_last, x_alen, xup_s, xup_a1, xup_1a, xup_uu, nr_i, nr_l, nr_o, nr_a, ft_i, ft_l, ft_o, ft_a, Nat.reduceLT, i_cl0, i_cl1, i_n1, i_m1, List.set_cons_zero, List.set_cons_succ, Nat.reduceLeDiff, Nat.le_refl, Nat.zero_le, Nat.add_zero, x_no, x_ifnull, x_ifnonnull, x_acmp_eq, x_acmp_ne, x_swl, x_tsw, x_castC, true_or, or_true, nr_z, ft_z, nr_z0, nr_z1, ft_z0, ft_z1, nr_on, nr_an, ft_on, ft_an, bI_e0, w1.M, mF, x1, x2, cl, ch, ci_cl hi' w3, ci_in hi' w3, al, ah]
  have p := w1.put (lo' := rLo (cs i)) (hi' := rHi (cs i)) (nn' := eB (cs i)) (ls' := ls)
  exact hQ _ p.1 (w.f p.1 p.2)
theorem dX14_arithmetic_0 : decode cX14_arithmetic 0 = .ok (.iconst 1, 1) := by decide +kernel
theorem dX14_arithmetic_1 : decode cX14_arithmetic 1 = .ok (.istore 7, 2) := by decide +kernel
theorem dX14_arithmetic_3 : decode cX14_arithmetic 3 = .ok (.iload_n 1, 1) := by decide +kernel
theorem dX14_arithmetic_4 : decode cX14_arithmetic 4 = .ok (.ifCond .eq 39, 3) := by decide +kernel
theorem dX14_arithmetic_7 : decode cX14_arithmetic 7 = .ok (.iload_n 3, 1) := by decide +kernel
theorem dX14_arithmetic_8 : decode cX14_arithmetic 8 = .ok (.ifCond .eq 35, 3) := by decide +kernel
theorem dX14_arithmetic_11 : decode cX14_arithmetic 11 = .ok (.iload 4, 2) := by decide +kernel
theorem dX14_arithmetic_13 : decode cX14_arithmetic 13 = .ok (.ifCond .ne 7, 3) := by decide +kernel
theorem dX14_arithmetic_16 : decode cX14_arithmetic 16 = .ok (.iconst 2, 1) := by decide +kernel
theorem dX14_arithmetic_17 : decode cX14_arithmetic 17 = .ok (.goto 24, 3) := by decide +kernel
theorem dX14_arithmetic_20 : decode cX14_arithmetic 20 = .ok (.iload 5, 2) := by decide +kernel
theorem dX14_arithmetic_22 : decode cX14_arithmetic 22 = .ok (.ifCond .eq 18, 3) := by decide +kernel
theorem dX14_arithmetic_25 : decode cX14_arithmetic 25 = .ok (.iload_n 2, 1) := by decide +kernel
theorem dX14_arithmetic_26 : decode cX14_arithmetic 26 = .ok (.ifCond .eq 14, 3) := by decide +kernel
theorem dX14_arithmetic_29 : decode cX14_arithmetic 29 = .ok (.aload_n 0, 1) := by decide +kernel
theorem dX14_arithmetic_30 : decode cX14_arithmetic 30 = .ok (.invokevirtual 182, 3) := by decide +kernel
theorem dX14_arithmetic_33 : decode cX14_arithmetic 33 = .ok (.ifCond .eq 7, 3) := by decide +kernel
theorem dX14_arithmetic_36 : decode cX14_arithmetic 36 = .ok (.iconst 4, 1) := by decide +kernel
theorem dX14_arithmetic_37 : decode cX14_arithmetic 37 = .ok (.goto 4, 3) := by decide +kernel
theorem dX14_arithmetic_40 : decode cX14_arithmetic 40 = .ok (.iconst 3, 1) := by decide +kernel
theorem dX14_arithmetic_41 : decode cX14_arithmetic 41 = .ok (.istore 7, 2) := by decide +kernel
theorem dX14_arithmetic_43 : decode cX14_arithmetic 43 = .ok (.aload_n 0, 1) := by decide +kernel
theorem dX14_arithmetic_44 : decode cX14_arithmetic 44 = .ok (.aload_n 0, 1) := by decide +kernel
theorem dX14_arithmetic_45 : decode cX14_arithmetic 45 = .ok (.getfield 82, 3) := by decide +kernel
theorem dX14_arithmetic_48 : decode cX14_arithmetic 48 = .ok (.ifCond .eq 12, 3) := by decide +kernel
theorem dX14_arithmetic_51 : decode cX14_arithmetic 51 = .ok (.aload_n 0, 1) := by decide +kernel
theorem dX14_arithmetic_52 : decode cX14_arithmetic 52 = .ok (.getfield 219, 3) := by decide +kernel
theorem dX14_arithmetic_55 : decode cX14_arithmetic 55 = .ok (.iconst 1, 1) := by decide +kernel
theorem dX14_arithmetic_56 : decode cX14_arithmetic 56 = .ok (.iadd, 1) := by decide +kernel
theorem dX14_arithmetic_57 : decode cX14_arithmetic 57 = .ok (.goto 7, 3) := by decide +kernel
theorem dX14_arithmetic_60 : decode cX14_arithmetic 60 = .ok (.aload_n 0, 1) := by decide +kernel
theorem dX14_arithmetic_61 : decode cX14_arithmetic 61 = .ok (.getfield 219, 3) := by decide +kernel
theorem dX14_arithmetic_64 : decode cX14_arithmetic 64 = .ok (.putfield 219, 3) := by decide +kernel
theorem dX14_arithmetic_67 : decode cX14_arithmetic 67 = .ok (.aload_n 0, 1) := by decide +kernel
theorem dX14_arithmetic_68 : decode cX14_arithmetic 68 = .ok (.iload 7, 2) := by decide +kernel
theorem dX14_arithmetic_70 : decode cX14_arithmetic 70 = .ok (.iload 6, 2) := by decide +kernel
theorem dX14_arithmetic_72 : decode cX14_arithmetic 72 = .ok (.if_icmp .ge 8, 3) := by decide +kernel
theorem dX14_arithmetic_75 : decode cX14_arithmetic 75 = .ok (.iload 7, 2) := by decide +kernel
theorem dX14_arithmetic_77 : decode cX14_arithmetic 77 = .ok (.goto 5, 3) := by decide +kernel
theorem dX14_arithmetic_80 : decode cX14_arithmetic 80 = .ok (.iload 6, 2) := by decide +kernel
theorem dX14_arithmetic_82 : decode cX14_arithmetic 82 = .ok (.invokevirtual 199, 3) := by decide +kernel
theorem dX14_arithmetic_85 : decode cX14_arithmetic 85 = .ok (.ireturn, 1) := by decide +kernel
abbrev r_X14_arithmetic : Room := { frames := 2, cells := 0, slots := 0, locals := 41 }
abbrev m_X14_arithmetic : xMd := (cX14_arithmetic, RX14, 8, (some FieldType.int), false, r_X14_arithmetic)
def b_X14_arithmetic_82 (Q : xQ) : xK := x_callv 13 C_X14_keep 2 0 0 <| x_iret Q
def b_X14_arithmetic_64 (Q : xQ) : xK := x_put 13 15 .int <| x_aload 0 <| x_iload 7 <| x_iload 6 <| x_icmp_ge (x_iload 6 <| (b_X14_arithmetic_82 Q)) <| x_iload 7 <| (b_X14_arithmetic_82 Q)
def b_X14_arithmetic_43 (Q : xQ) : xK := x_aload 0 <| x_aload 0 <| x_get 13 5 <| x_if_eq (x_aload 0 <| x_get 13 15 <| (b_X14_arithmetic_64 Q)) <| x_aload 0 <| x_get 13 15 <| x_c (.int 1) <| x_iadd <| (b_X14_arithmetic_64 Q)
def b_X14_arithmetic_41 (Q : xQ) : xK := x_istore 7 <| (b_X14_arithmetic_43 Q)
def b_X14_arithmetic_40 (Q : xQ) : xK := x_c (.int 3) <| (b_X14_arithmetic_41 Q)
def b_X14_arithmetic_0 (Q : xQ) : xK := x_c (.int 1) <| x_istore 7 <| x_iload 1 <| x_if_eq ((b_X14_arithmetic_43 Q)) <| x_iload 3 <| x_if_eq ((b_X14_arithmetic_43 Q)) <| x_iload 4 <| x_if_ne (x_iload 5 <| x_if_eq ((b_X14_arithmetic_40 Q)) <| x_iload 2 <| x_if_eq ((b_X14_arithmetic_40 Q)) <| x_aload 0 <| x_callv 13 C_X14_isBounded 1 0 0 <| x_if_eq ((b_X14_arithmetic_40 Q)) <| x_c (.int 4) <| (b_X14_arithmetic_41 Q)) <| x_c (.int 2) <| (b_X14_arithmetic_41 Q)
theorem s_X14_arithmetic_82 (G : xG) (l : Launch) (Q : xQ) : xW G l m_X14_arithmetic xX0 (xPm G Q r_X14_arithmetic) 82 (b_X14_arithmetic_82 Q) := xo_callV (pc := 82) (np := 1) (ci := 13) rfl (cM_X14_keep G l) dX14_arithmetic_82 kw1326 kw1323 kw1325 ks50 kw13 (by decide +kernel) (by decide) <| xo_iret (pc := 85) rfl dX14_arithmetic_85
theorem s_X14_arithmetic_64 (G : xG) (l : Launch) (Q : xQ) : xW G l m_X14_arithmetic xX0 (xPm G Q r_X14_arithmetic) 64 (b_X14_arithmetic_64 Q) := xo_put (pc := 64) (ci := 13) (i := 15) rfl ok13 (by decide) rfl rfl dX14_arithmetic_64 kw1216 <| xo_aload_n (pc := 67) (i := 0) dX14_arithmetic_67 rfl <| xo_iload (pc := 68) (i := 7) dX14_arithmetic_68 <| xo_iload (pc := 70) (i := 6) dX14_arithmetic_70 <| xo_icmp_ge (pc := 72) (tgt := 80) dX14_arithmetic_72 (by decide) (xo_iload (pc := 80) (i := 6) dX14_arithmetic_80 <| (s_X14_arithmetic_82 G l Q)) <| xo_iload (pc := 75) (i := 7) dX14_arithmetic_75 <| xo_goto (pc := 77) (tgt := 82) dX14_arithmetic_77 (by decide) <| (s_X14_arithmetic_82 G l Q)
theorem s_X14_arithmetic_43 (G : xG) (l : Launch) (Q : xQ) : xW G l m_X14_arithmetic xX0 (xPm G Q r_X14_arithmetic) 43 (b_X14_arithmetic_43 Q) := xo_aload_n (pc := 43) (i := 0) dX14_arithmetic_43 rfl <| xo_aload_n (pc := 44) (i := 0) dX14_arithmetic_44 rfl <| xo_get (pc := 45) (ci := 13) (i := 5) rfl ok13 (by decide) dX14_arithmetic_45 kw1206 <| xo_if_eq (pc := 48) (tgt := 60) dX14_arithmetic_48 (by decide) (xo_aload_n (pc := 60) (i := 0) dX14_arithmetic_60 rfl <| xo_get (pc := 61) (ci := 13) (i := 15) rfl ok13 (by decide) dX14_arithmetic_61 kw1216 <| (s_X14_arithmetic_64 G l Q)) <| xo_aload_n (pc := 51) (i := 0) dX14_arithmetic_51 rfl <| xo_get (pc := 52) (ci := 13) (i := 15) rfl ok13 (by decide) dX14_arithmetic_52 kw1216 <| xo_iconst (pc := 55) dX14_arithmetic_55 (by decide) <| xo_iadd (pc := 56) dX14_arithmetic_56 <| xo_goto (pc := 57) (tgt := 64) dX14_arithmetic_57 (by decide) <| (s_X14_arithmetic_64 G l Q)
theorem s_X14_arithmetic_41 (G : xG) (l : Launch) (Q : xQ) : xW G l m_X14_arithmetic xX0 (xPm G Q r_X14_arithmetic) 41 (b_X14_arithmetic_41 Q) := xo_istore (pc := 41) (i := 7) dX14_arithmetic_41 (by decide) <| (s_X14_arithmetic_43 G l Q)
theorem s_X14_arithmetic_40 (G : xG) (l : Launch) (Q : xQ) : xW G l m_X14_arithmetic xX0 (xPm G Q r_X14_arithmetic) 40 (b_X14_arithmetic_40 Q) := xo_iconst (pc := 40) dX14_arithmetic_40 (by decide) <| (s_X14_arithmetic_41 G l Q)
theorem s_X14_arithmetic_0 (G : xG) (l : Launch) (Q : xQ) : xW G l m_X14_arithmetic xX0 (xPm G Q r_X14_arithmetic) 0 (b_X14_arithmetic_0 Q) := xo_iconst (pc := 0) dX14_arithmetic_0 (by decide) <| xo_istore (pc := 1) (i := 7) dX14_arithmetic_1 (by decide) <| xo_iload_n (pc := 3) (i := 1) dX14_arithmetic_3 rfl <| xo_if_eq (pc := 4) (tgt := 43) dX14_arithmetic_4 (by decide) ((s_X14_arithmetic_43 G l Q)) <| xo_iload_n (pc := 7) (i := 3) dX14_arithmetic_7 rfl <| xo_if_eq (pc := 8) (tgt := 43) dX14_arithmetic_8 (by decide) ((s_X14_arithmetic_43 G l Q)) <| xo_iload (pc := 11) (i := 4) dX14_arithmetic_11 <| xo_if_ne (pc := 13) (tgt := 20) dX14_arithmetic_13 (by decide) (xo_iload (pc := 20) (i := 5) dX14_arithmetic_20 <| xo_if_eq (pc := 22) (tgt := 40) dX14_arithmetic_22 (by decide) ((s_X14_arithmetic_40 G l Q)) <| xo_iload_n (pc := 25) (i := 2) dX14_arithmetic_25 rfl <| xo_if_eq (pc := 26) (tgt := 40) dX14_arithmetic_26 (by decide) ((s_X14_arithmetic_40 G l Q)) <| xo_aload_n (pc := 29) (i := 0) dX14_arithmetic_29 rfl <| xo_callV (pc := 30) (np := 0) (ci := 13) rfl (cM_X14_isBounded G l) dX14_arithmetic_30 kw1319 kw1316 kw1318 ks49 kw13 (by decide +kernel) (by decide) <| xo_if_eq (pc := 33) (tgt := 40) dX14_arithmetic_33 (by decide) ((s_X14_arithmetic_40 G l Q)) <| xo_iconst (pc := 36) dX14_arithmetic_36 (by decide) <| xo_goto (pc := 37) (tgt := 41) dX14_arithmetic_37 (by decide) <| (s_X14_arithmetic_41 G l Q)) <| xo_iconst (pc := 16) dX14_arithmetic_16 (by decide) <| xo_goto (pc := 17) (tgt := 41) dX14_arithmetic_17 (by decide) <| (s_X14_arithmetic_41 G l Q)

def oW (box bd df wi al ib : Bool) : Nat := if (box && df) = true then (if wi = false then 2 else if (al && bd && ib) = true then 4 else 3) else 1
def C_X14_arithmetic : xC := fun av S Q => ∃ (M : Nat) (s : Nat → Value) (lo hi : Int) (nn : Bool) (n : Nat) (cs : Nat → vC) (box bd df wi al : Bool) (m : Nat), av = [.ref M, .int (bI box), .int (bI bd), .int (bI df), .int (bI wi), .int (bI al), .int (nI m)] ∧ m ≤ 4 ∧ n < 3000 ∧ s 15 = .int 0 ∧ ms S.1 M s lo hi nn false n cs ∧ oF lo ∧ oF hi ∧ cOk (kC (min (oW box bd df wi al (ibB nn lo hi)) m) nn lo hi) ∧ ∀ h', fk h' S.1 M → ms h' M (su s 11 (.int (nI (n + 1)))) lo hi nn false (n + 1) (cU cs n (kC (min (oW box bd df wi al (ibB nn lo hi)) m) nn lo hi)) → Q (some (.int (nI n))) (h', S.2)
theorem oW_b {box bd df wi al ib : Bool} : 1 ≤ oW box bd df wi al ib ∧ oW box bd df wi al ib ≤ 4 := by
  unfold oW
  repeat' split
  all_goals decide
set_option maxHeartbeats 2000000 in
theorem cM_X14_arithmetic (G : xG) (l : Launch) : xM G l yX14_arithmetic cX14_arithmetic 8 (some FieldType.int) r_X14_arithmetic C_X14_arithmetic := by
  refine xM_of (fun Q => b_X14_arithmetic_0 Q) RX14 false (s_X14_arithmetic_0 G l) (by decide) rfl (by decide) ?_
  rintro av ⟨h, S2⟩ Q ⟨M, s, lo, hi, nn, n, cs, box, bd, df, wi, al, m, rfl, hm, hn, s15, w, hlo, hhi, ok, hQ⟩
  dsimp only at *
  refine ⟨Nat.le_of_ble_eq_true rfl, ?_⟩
  have wM := w.1.M
  have b43 : ∀ o, o = oW box bd df wi al (ibB nn lo hi) → b_X14_arithmetic_43 Q [(7, .int (nI o)), (0, .ref M), (1, .int (bI box)), (2, .int (bI bd)), (3, .int (bI df)), (4, .int (bI wi)), (5, .int (bI al)), (6, .int (nI m))] [] (h, S2) := by
    rintro o ho
    have ob := oW_b (box := box) (bd := bd) (df := df) (wi := wi) (al := al) (ib := ibB nn lo hi)
    rw [← ho] at ob ok hQ
    have q1 : nI m ≤ nI o ↔ m ≤ o := by rw [i_le, nI_toInt (by omega), nI_toInt (by omega)]; omega
    have b0 : (bI false = 0) = True := eq_true rfl
    have hs : xup h M (.inr (13, mF M s lo hi nn false)) = h := by
      funext q
      unfold xup
      split
      · rename_i e
        rw [e]
        exact wM.symm
      · rfl
    unfold mF at hs
    rw [s15] at hs
    simp only [q_c, x_iload, x_lload, x_aload, q_istore, q_lstore, q_astore, q_astore2, x_iinc, q_iadd, q_isub, q_imul, q_iand, q_ior, q_ixor, q_ladd, q_lsub, q_lmul, q_land, q_lor, q_lxor, q_idiv, q_irem, q_ldiv, q_lrem, q_ineg, q_lneg, q_ishl, q_ishr, q_iushr, q_lshl, q_lshr, q_lushr, q_i2l, q_l2i, q_i2b, q_i2c, q_lcmp, q_if_eq, q_if_ne, q_if_lt, q_if_ge, q_if_gt, q_if_le, q_icmp_eq, q_icmp_ne, q_icmp_lt, q_icmp_ge, q_icmp_gt, q_icmp_le, q_dup, q_pop, q_dup_x1, q_dup2, x_iret, x_zret, x_lret, x_aret, x_vret, x_call, x_callv, x_calli, x_oinit, x_mmax, x_mmin, x_mabs, x_mmaxL, x_mminL, x_mabsL, lg_cmp_ge, lg_cmp_le, lg_cmp_gt, lg_cmp_lt, lg_cmp_eq, xlk, q_xs1, q_xs2, lv_args, Value.category, List.filter_cons, List.filter_nil, Nat.reduceAdd, Nat.reduceBEq, Nat.reduceEqDiff, Nat.reduceSub, Nat.sub_zero, beq_self_eq_true, Bool.not_true, Bool.not_false, Bool.and_true, Bool.and_false, Bool.true_and, Bool.false_and, reduceIte, reduceCtorEq, Bool.false_eq_true, Nat.one_ne_zero, Nat.zero_ne_one, Nat.zero_add, Option.toList_some, Option.toList_none, List.nil_append, List.cons_append, List.take_succ_cons, List.take_zero, List.take_nil, List.drop_succ_cons, List.drop_zero, List.length_cons, List.length_nil, List.reverse_cons, List.reverse_nil, List.head?_cons, List.map_cons, List.map_nil, List.sum_cons, List.sum_nil, true_and, and_true, List.getElem?_cons_zero, List.getElem?_cons_succ, Prod.eta, x_get, x_put, x_iald, x_iast, x_bald, x_bast, x_lald, x_last, x_alen, xup_s, xup_a1, xup_1a, xup_uu, nr_i, nr_l, nr_o, nr_a, ft_i, ft_l, ft_o, ft_a, Nat.reduceLT, i_cl0, i_cl1, i_n1, i_m1, List.set_cons_zero, List.set_cons_succ, Nat.reduceLeDiff, Nat.le_refl, Nat.zero_le, Nat.add_zero, x_no, x_ifnull, x_ifnonnull, x_acmp_eq, x_acmp_ne, x_swl, x_tsw, x_castC, true_or, or_true, nr_z, ft_z, nr_z0, nr_z1, ft_z0, ft_z1, nr_on, nr_an, ft_on, ft_an, b_X14_arithmetic_43, b_X14_arithmetic_64, b_X14_arithmetic_82, wM, mF, s15, b0, q1, hs, true_implies, not_true_eq_false, false_implies, and_true]
    refine ⟨fun z => ⟨⟨_, _, rfl, wM⟩, M, s, lo, hi, nn, false, n, cs, m, rfl, hm, hn, w, ?_, fun h2 f2 m2 => ?_⟩, fun z => ⟨⟨_, _, rfl, wM⟩, M, s, lo, hi, nn, false, n, cs, o, rfl, by omega, hn, w, ?_, fun h2 f2 m2 => ?_⟩⟩
    · rw [show min o m = m by omega] at ok
      exact ok
    · try simp only [q_c, x_iload, x_lload, x_aload, q_istore, q_lstore, q_astore, q_astore2, x_iinc, q_iadd, q_isub, q_imul, q_iand, q_ior, q_ixor, q_ladd, q_lsub, q_lmul, q_land, q_lor, q_lxor, q_idiv, q_irem, q_ldiv, q_lrem, q_ineg, q_lneg, q_ishl, q_ishr, q_iushr, q_lshl, q_lshr, q_lushr, q_i2l, q_l2i, q_i2b, q_i2c, q_lcmp, q_if_eq, q_if_ne, q_if_lt, q_if_ge, q_if_gt, q_if_le, q_icmp_eq, q_icmp_ne, q_icmp_lt, q_icmp_ge, q_icmp_gt, q_icmp_le, q_dup, q_pop, q_dup_x1, q_dup2, x_iret, x_zret, x_lret, x_aret, x_vret, x_call, x_callv, x_calli, x_oinit, x_mmax, x_mmin, x_mabs, x_mmaxL, x_mminL, x_mabsL, lg_cmp_ge, lg_cmp_le, lg_cmp_gt, lg_cmp_lt, lg_cmp_eq, xlk, q_xs1, q_xs2, lv_args, Value.category, List.filter_cons, List.filter_nil, Nat.reduceAdd, Nat.reduceBEq, Nat.reduceEqDiff, Nat.reduceSub, Nat.sub_zero, beq_self_eq_true, Bool.not_true, Bool.not_false, Bool.and_true, Bool.and_false, Bool.true_and, Bool.false_and, reduceIte, reduceCtorEq, Bool.false_eq_true, Nat.one_ne_zero, Nat.zero_ne_one, Nat.zero_add, Option.toList_some, Option.toList_none, List.nil_append, List.cons_append, List.take_succ_cons, List.take_zero, List.take_nil, List.drop_succ_cons, List.drop_zero, List.length_cons, List.length_nil, List.reverse_cons, List.reverse_nil, List.head?_cons, List.map_cons, List.map_nil, List.sum_cons, List.sum_nil, true_and, and_true, List.getElem?_cons_zero, List.getElem?_cons_succ, Prod.eta, x_get, x_put, x_iald, x_iast, x_bald, x_bast, x_lald, x_last, x_alen, xup_s, xup_a1, xup_1a, xup_uu, nr_i, nr_l, nr_o, nr_a, ft_i, ft_l, ft_o, ft_a, Nat.reduceLT, i_cl0, i_cl1, i_n1, i_m1, List.set_cons_zero, List.set_cons_succ, Nat.reduceLeDiff, Nat.le_refl, Nat.zero_le, Nat.add_zero, x_no, x_ifnull, x_ifnonnull, x_acmp_eq, x_acmp_ne, x_swl, x_tsw, x_castC, true_or, or_true, nr_z, ft_z, nr_z0, nr_z1, ft_z0, ft_z1, nr_on, nr_an, ft_on, ft_an]
      rw [show min o m = m by omega] at hQ
      exact hQ h2 f2 m2
    · rw [show min o m = o by omega] at ok
      exact ok
    · try simp only [q_c, x_iload, x_lload, x_aload, q_istore, q_lstore, q_astore, q_astore2, x_iinc, q_iadd, q_isub, q_imul, q_iand, q_ior, q_ixor, q_ladd, q_lsub, q_lmul, q_land, q_lor, q_lxor, q_idiv, q_irem, q_ldiv, q_lrem, q_ineg, q_lneg, q_ishl, q_ishr, q_iushr, q_lshl, q_lshr, q_lushr, q_i2l, q_l2i, q_i2b, q_i2c, q_lcmp, q_if_eq, q_if_ne, q_if_lt, q_if_ge, q_if_gt, q_if_le, q_icmp_eq, q_icmp_ne, q_icmp_lt, q_icmp_ge, q_icmp_gt, q_icmp_le, q_dup, q_pop, q_dup_x1, q_dup2, x_iret, x_zret, x_lret, x_aret, x_vret, x_call, x_callv, x_calli, x_oinit, x_mmax, x_mmin, x_mabs, x_mmaxL, x_mminL, x_mabsL, lg_cmp_ge, lg_cmp_le, lg_cmp_gt, lg_cmp_lt, lg_cmp_eq, xlk, q_xs1, q_xs2, lv_args, Value.category, List.filter_cons, List.filter_nil, Nat.reduceAdd, Nat.reduceBEq, Nat.reduceEqDiff, Nat.reduceSub, Nat.sub_zero, beq_self_eq_true, Bool.not_true, Bool.not_false, Bool.and_true, Bool.and_false, Bool.true_and, Bool.false_and, reduceIte, reduceCtorEq, Bool.false_eq_true, Nat.one_ne_zero, Nat.zero_ne_one, Nat.zero_add, Option.toList_some, Option.toList_none, List.nil_append, List.cons_append, List.take_succ_cons, List.take_zero, List.take_nil, List.drop_succ_cons, List.drop_zero, List.length_cons, List.length_nil, List.reverse_cons, List.reverse_nil, List.head?_cons, List.map_cons, List.map_nil, List.sum_cons, List.sum_nil, true_and, and_true, List.getElem?_cons_zero, List.getElem?_cons_succ, Prod.eta, x_get, x_put, x_iald, x_iast, x_bald, x_bast, x_lald, x_last, x_alen, xup_s, xup_a1, xup_1a, xup_uu, nr_i, nr_l, nr_o, nr_a, ft_i, ft_l, ft_o, ft_a, Nat.reduceLT, i_cl0, i_cl1, i_n1, i_m1, List.set_cons_zero, List.set_cons_succ, Nat.reduceLeDiff, Nat.le_refl, Nat.zero_le, Nat.add_zero, x_no, x_ifnull, x_ifnonnull, x_acmp_eq, x_acmp_ne, x_swl, x_tsw, x_castC, true_or, or_true, nr_z, ft_z, nr_z0, nr_z1, ft_z0, ft_z1, nr_on, nr_an, ft_on, ft_an]
      rw [show min o m = o by omega] at hQ
      exact hQ h2 f2 m2
  unfold oW at b43
  simp only [q_c, x_iload, x_lload, x_aload, q_istore, q_lstore, q_astore, q_astore2, x_iinc, q_iadd, q_isub, q_imul, q_iand, q_ior, q_ixor, q_ladd, q_lsub, q_lmul, q_land, q_lor, q_lxor, q_idiv, q_irem, q_ldiv, q_lrem, q_ineg, q_lneg, q_ishl, q_ishr, q_iushr, q_lshl, q_lshr, q_lushr, q_i2l, q_l2i, q_i2b, q_i2c, q_lcmp, q_if_eq, q_if_ne, q_if_lt, q_if_ge, q_if_gt, q_if_le, q_icmp_eq, q_icmp_ne, q_icmp_lt, q_icmp_ge, q_icmp_gt, q_icmp_le, q_dup, q_pop, q_dup_x1, q_dup2, x_iret, x_zret, x_lret, x_aret, x_vret, x_call, x_callv, x_calli, x_oinit, x_mmax, x_mmin, x_mabs, x_mmaxL, x_mminL, x_mabsL, lg_cmp_ge, lg_cmp_le, lg_cmp_gt, lg_cmp_lt, lg_cmp_eq, xlk, q_xs1, q_xs2, lv_args, Value.category, List.filter_cons, List.filter_nil, Nat.reduceAdd, Nat.reduceBEq, Nat.reduceEqDiff, Nat.reduceSub, Nat.sub_zero, beq_self_eq_true, Bool.not_true, Bool.not_false, Bool.and_true, Bool.and_false, Bool.true_and, Bool.false_and, reduceIte, reduceCtorEq, Bool.false_eq_true, Nat.one_ne_zero, Nat.zero_ne_one, Nat.zero_add, Option.toList_some, Option.toList_none, List.nil_append, List.cons_append, List.take_succ_cons, List.take_zero, List.take_nil, List.drop_succ_cons, List.drop_zero, List.length_cons, List.length_nil, List.reverse_cons, List.reverse_nil, List.head?_cons, List.map_cons, List.map_nil, List.sum_cons, List.sum_nil, true_and, and_true, List.getElem?_cons_zero, List.getElem?_cons_succ, Prod.eta, x_get, x_put, x_iald, x_iast, x_bald, x_bast, x_lald, x_last, x_alen, xup_s, xup_a1, xup_1a, xup_uu, nr_i, nr_l, nr_o, nr_a, ft_i, ft_l, ft_o, ft_a, Nat.reduceLT, i_cl0, i_cl1, i_n1, i_m1, List.set_cons_zero, List.set_cons_succ, Nat.reduceLeDiff, Nat.le_refl, Nat.zero_le, Nat.add_zero, x_no, x_ifnull, x_ifnonnull, x_acmp_eq, x_acmp_ne, x_swl, x_tsw, x_castC, true_or, or_true, nr_z, ft_z, nr_z0, nr_z1, ft_z0, ft_z1, nr_on, nr_an, ft_on, ft_an, b_X14_arithmetic_0, b_X14_arithmetic_40, b_X14_arithmetic_41, bI_e0]
  refine ⟨fun a => b43 1 (by rw [a]; rfl), fun a => ⟨fun b => b43 1 (by rw [b, Bool.and_false]; rfl), fun b => ?_⟩⟩
  rw [eq_true_of_ne_false a, eq_true_of_ne_false b] at b43
  refine ⟨fun c => ⟨fun d => b43 3 (by rw [eq_true_of_ne_false c, d]; rfl), fun d => ⟨fun e => b43 3 (by rw [eq_true_of_ne_false c, e, Bool.and_false]; rfl), fun e => ⟨⟨_, _, rfl, wM⟩, M, s, lo, hi, nn, false, rfl, w.1.1, hlo, hhi, ?_⟩⟩⟩, fun c => b43 2 (by rw [c]; rfl)⟩
  rw [eq_true_of_ne_false c, eq_true_of_ne_false d, eq_true_of_ne_false e] at b43
  simp only [q_c, x_iload, x_lload, x_aload, q_istore, q_lstore, q_astore, q_astore2, x_iinc, q_iadd, q_isub, q_imul, q_iand, q_ior, q_ixor, q_ladd, q_lsub, q_lmul, q_land, q_lor, q_lxor, q_idiv, q_irem, q_ldiv, q_lrem, q_ineg, q_lneg, q_ishl, q_ishr, q_iushr, q_lshl, q_lshr, q_lushr, q_i2l, q_l2i, q_i2b, q_i2c, q_lcmp, q_if_eq, q_if_ne, q_if_lt, q_if_ge, q_if_gt, q_if_le, q_icmp_eq, q_icmp_ne, q_icmp_lt, q_icmp_ge, q_icmp_gt, q_icmp_le, q_dup, q_pop, q_dup_x1, q_dup2, x_iret, x_zret, x_lret, x_aret, x_vret, x_call, x_callv, x_calli, x_oinit, x_mmax, x_mmin, x_mabs, x_mmaxL, x_mminL, x_mabsL, lg_cmp_ge, lg_cmp_le, lg_cmp_gt, lg_cmp_lt, lg_cmp_eq, xlk, q_xs1, q_xs2, lv_args, Value.category, List.filter_cons, List.filter_nil, Nat.reduceAdd, Nat.reduceBEq, Nat.reduceEqDiff, Nat.reduceSub, Nat.sub_zero, beq_self_eq_true, Bool.not_true, Bool.not_false, Bool.and_true, Bool.and_false, Bool.true_and, Bool.false_and, reduceIte, reduceCtorEq, Bool.false_eq_true, Nat.one_ne_zero, Nat.zero_ne_one, Nat.zero_add, Option.toList_some, Option.toList_none, List.nil_append, List.cons_append, List.take_succ_cons, List.take_zero, List.take_nil, List.drop_succ_cons, List.drop_zero, List.length_cons, List.length_nil, List.reverse_cons, List.reverse_nil, List.head?_cons, List.map_cons, List.map_nil, List.sum_cons, List.sum_nil, true_and, and_true, List.getElem?_cons_zero, List.getElem?_cons_succ, Prod.eta, x_get, x_put, x_iald, x_iast, x_bald, x_bast, x_lald, x_last, x_alen, xup_s, xup_a1, xup_1a, xup_uu, nr_i, nr_l, nr_o, nr_a, ft_i, ft_l, ft_o, ft_a, Nat.reduceLT, i_cl0, i_cl1, i_n1, i_m1, List.set_cons_zero, List.set_cons_succ, Nat.reduceLeDiff, Nat.le_refl, Nat.zero_le, Nat.add_zero, x_no, x_ifnull, x_ifnonnull, x_acmp_eq, x_acmp_ne, x_swl, x_tsw, x_castC, true_or, or_true, nr_z, ft_z, nr_z0, nr_z1, ft_z0, ft_z1, nr_on, nr_an, ft_on, ft_an, bI_e0]
  exact ⟨fun f => b43 3 (by rw [f]; rfl), fun f => b43 4 (by rw [eq_true_of_ne_false f]; rfl)⟩
