/-! literal, astray -/
theorem lwT_i (t : Nat → Nat) (n : Nat) : lwT (lwT t n) n = lwT t n := by
  funext i
  unfold lwT
  by_cases c : i < n
  · rw [if_pos c, if_pos c]
    unfold lwB
    repeat' split
    all_goals omega
  · rw [if_neg c, if_neg c]
theorem kl_keep2 {h : xH} {K : xQ} {B sz n ts lk : Nat} {cs : Nat → vC} {mc : Int32} {E : Nat} {ad : Nat → Nat} {en em : Bool} {t : Nat → Nat} {L : List Nat} {v : Nat} {cv : vC} {R : List Value} (w : clF h B ts en t L lk em) (wl : clL h B sz n cs mc E ad) (hB : B + 44 ≤ sz) (hlk : lk ≤ n) (hv : B + 89 ≤ v ∧ v < sz) (vc : vcR h v cv R) (hn : n ≤ 511) (q : ∀ h' sz' T, sz ≤ sz' → sz' ≤ sz + 1 → (∀ q, B + 44 ≤ q → q < B + 89 → h' q = h q) → (ceW h B sz cv R → cOk cv → clS h' sz' B (n + 1) (cU cs n cv) ts en t L) → K (some (.int (nI n))) (h', sz', T)) : C_X11_keep [.ref B, .ref v] (h, sz, 1, 768) K := by
  obtain ⟨a1, a2, a3, a4, a5⟩ := wl
  refine ⟨B, ts, lk, v, en, mc, E, n, ad, rfl, w.1, a1, a2, clL.ac ⟨a1, a2, a3, a4, a5⟩, ⟨_, vc.1⟩, fun i hi => ?_, ?_, ?_, ?_, ?_, ?_, ?_, ?_, Nat.le_refl _, Nat.le_refl _, fun h' mc' E' sz' T f1 f2 f3 f4 => ?_⟩
  · have := (a5 i hi).1
    show ad i ≠ sz
    omega
  · show v ≠ sz
    omega
  · show n ≤ 512
    omega
  · show B + 1 ≠ sz
    omega
  · show B ≠ sz
    omega
  · show E ≠ sz
    omega
  · omega
  · omega
  · dsimp only at f1 f2
    have hs : sz ≤ sz' ∧ sz' ≤ sz + 1 := by omega
    have nE : ∀ a c R, vcR h a c R → a ≠ E := by
      intro a c R x y
      obtain ⟨k0, n0, g0, z⟩ := alE_k a2
      rw [y] at x
      exact absurd (x.1.symm.trans z) (by simp)
    refine q h' sz' T hs.1 hs.2 (fun q x y => f1 q (by omega) (by omega) (by omega)) (fun ce ok => ⟨by omega, lk, em, mc', E', va_up ad n v, by omega, w.al (fun q x y z => f1 q z (by omega) (by omega)), f3, f4, by omega, by omega, fun i hi => ?_⟩)
    by_cases d : i = n
    · subst d
      have e1 : va_up ad i v i = v := by
        unfold va_up
        rw [if_pos rfl]
      have e2 : cU cs i cv i = cv := if_pos rfl
      rw [e1, e2]
      refine ⟨⟨hv.1, by omega⟩, ok, R, ⟨(f1 v (by omega) (nE _ _ _ vc) (by omega)).trans vc.1, vc.2⟩, ce.fr hs.1 (alE_k a2) (fun q x y z => f1 q (by omega) z (by omega))⟩
    · have e1 : va_up ad n v i = ad i := by
        unfold va_up
        rw [if_neg d]
      have e2 : cU cs n cv i = cs i := if_neg d
      rw [e1, e2]
      obtain ⟨b1, b2, R', b3, b4⟩ := a5 i (by omega)
      exact ⟨⟨b1.1, by omega⟩, b2, R', ⟨(f1 _ (by omega) (nE _ _ _ b3) (by omega)).trans b3.1, b3.2⟩, b4.fr hs.1 (alE_k a2) (fun q x y z => f1 q (by omega) z (by omega))⟩
theorem dX11_literal_0 : decode cX11_literal 0 = .ok (.aload_n 0, 1) := by decide +kernel
theorem dX11_literal_1 : decode cX11_literal 1 = .ok (.getfield 72, 3) := by decide +kernel
theorem dX11_literal_4 : decode cX11_literal 4 = .ok (.istore_n 1, 1) := by decide +kernel
theorem dX11_literal_5 : decode cX11_literal 5 = .ok (.aload_n 0, 1) := by decide +kernel
theorem dX11_literal_6 : decode cX11_literal 6 = .ok (.iconst 0, 1) := by decide +kernel
theorem dX11_literal_7 : decode cX11_literal 7 = .ok (.putfield 72, 3) := by decide +kernel
theorem dX11_literal_10 : decode cX11_literal 10 = .ok (.aload_n 0, 1) := by decide +kernel
theorem dX11_literal_11 : decode cX11_literal 11 = .ok (.iconst 0, 1) := by decide +kernel
theorem dX11_literal_12 : decode cX11_literal 12 = .ok (.putfield 80, 3) := by decide +kernel
theorem dX11_literal_15 : decode cX11_literal 15 = .ok (.aload_n 0, 1) := by decide +kernel
theorem dX11_literal_16 : decode cX11_literal 16 = .ok (.invokevirtual 84, 3) := by decide +kernel
theorem dX11_literal_19 : decode cX11_literal 19 = .ok (.ifCond .eq 6, 3) := by decide +kernel
theorem dX11_literal_22 : decode cX11_literal 22 = .ok (.bipush (-2), 2) := by decide +kernel
theorem dX11_literal_24 : decode cX11_literal 24 = .ok (.ireturn, 1) := by decide +kernel
theorem dX11_literal_25 : decode cX11_literal 25 = .ok (.aload_n 0, 1) := by decide +kernel
theorem dX11_literal_26 : decode cX11_literal 26 = .ok (.aload_n 0, 1) := by decide +kernel
theorem dX11_literal_27 : decode cX11_literal 27 = .ok (.aload_n 0, 1) := by decide +kernel
theorem dX11_literal_28 : decode cX11_literal 28 = .ok (.getfield 16, 3) := by decide +kernel
theorem dX11_literal_31 : decode cX11_literal 31 = .ok (.iload_n 1, 1) := by decide +kernel
theorem dX11_literal_32 : decode cX11_literal 32 = .ok (.invokestatic 88, 3) := by decide +kernel
theorem dX11_literal_35 : decode cX11_literal 35 = .ok (.invokevirtual 94, 3) := by decide +kernel
theorem dX11_literal_38 : decode cX11_literal 38 = .ok (.invokevirtual 98, 3) := by decide +kernel
theorem dX11_literal_41 : decode cX11_literal 41 = .ok (.ireturn, 1) := by decide +kernel
abbrev r_X11_literal : Room := { frames := 9, cells := 3, slots := 1177, locals := 199 }
abbrev m_X11_literal : xMd := (cX11_literal, RX11, 2, (some FieldType.int), false, r_X11_literal)
def b_X11_literal_0 (Q : xQ) : xK := x_aload 0 <| x_get 10 8 <| x_istore 1 <| x_aload 0 <| x_c (.int 0) <| x_put 10 8 .int <| x_aload 0 <| x_c (.int 0) <| x_put 10 9 .boolean <| x_aload 0 <| x_callv 10 C_X11_isFull 1 0 0 <| x_if_eq (x_aload 0 <| x_aload 0 <| x_aload 0 <| x_get 10 1 <| x_iload 1 <| x_call C_J7_copyOf_9075b 2 1 400 <| x_callv 10 C_X11_readCell 2 1 9 <| x_callv 10 C_X11_keep 2 1 768 <| x_iret Q) <| x_c (.int (-2)) <| x_iret Q
theorem s_X11_literal_0 (G : xG) (l : Launch) (Q : xQ) : xW G l m_X11_literal xX0 (xPm G Q r_X11_literal) 0 (b_X11_literal_0 Q) := xo_aload_n (pc := 0) (i := 0) dX11_literal_0 rfl <| xo_get (pc := 1) (ci := 10) (i := 8) rfl ok10 (by decide) dX11_literal_1 kw267 <| xo_istore_n (pc := 4) (i := 1) dX11_literal_4 rfl (by decide) <| xo_aload_n (pc := 5) (i := 0) dX11_literal_5 rfl <| xo_iconst (pc := 6) dX11_literal_6 (by decide) <| xo_put (pc := 7) (ci := 10) (i := 8) rfl ok10 (by decide) rfl rfl dX11_literal_7 kw267 <| xo_aload_n (pc := 10) (i := 0) dX11_literal_10 rfl <| xo_iconst (pc := 11) dX11_literal_11 (by decide) <| xo_put (pc := 12) (ci := 10) (i := 9) rfl ok10 (by decide) rfl rfl dX11_literal_12 kw268 <| xo_aload_n (pc := 15) (i := 0) dX11_literal_15 rfl <| xo_callV (pc := 16) (np := 0) (ci := 10) rfl (cM_X11_isFull G l) dX11_literal_16 kw315 kw312 kw314 ks1 kw1 (by decide +kernel) (by decide) <| xo_if_eq (pc := 19) (tgt := 25) dX11_literal_19 (by decide) (xo_aload_n (pc := 25) (i := 0) dX11_literal_25 rfl <| xo_aload_n (pc := 26) (i := 0) dX11_literal_26 rfl <| xo_aload_n (pc := 27) (i := 0) dX11_literal_27 rfl <| xo_get (pc := 28) (ci := 10) (i := 1) rfl ok10 (by decide) dX11_literal_28 kw260 <| xo_iload_n (pc := 31) (i := 1) dX11_literal_31 rfl <| xo_callS (pc := 32) (np := 2) (cM_J7_copyOf_9075b G l) dX11_literal_32 kw322 kw320 kw321 kw16 (by decide +kernel) (by decide) <| xo_callV (pc := 35) (np := 1) (ci := 10) rfl (cM_X11_readCell G l) dX11_literal_35 kw339 kw336 kw338 ks2 kw1 (by decide +kernel) (by decide) <| xo_callV (pc := 38) (np := 1) (ci := 10) rfl (cM_X11_keep G l) dX11_literal_38 kw718 kw715 kw717 ks21 kw1 (by decide +kernel) (by decide) <| xo_iret (pc := 41) rfl dX11_literal_41) <| xo_bipush (pc := 22) dX11_literal_22 (by decide) <| xo_iret (pc := 24) rfl dX11_literal_24

def C_X11_literal : xC := fun av S Q => ∃ (B n ts : Nat) (cs : Nat → vC) (en : Bool) (t t2 : Nat → Nat) (L : List Nat), av = [.ref B] ∧ clS S.1 S.2.1 B n cs ts en t L ∧ n ≤ 511 ∧ B + 89 ≤ S.2.1 ∧ 3 ≤ S.2.2.1 ∧ 1177 ≤ S.2.2.2 ∧ (∀ i, i < ts → t2 i = t i) ∧ (∀ i, t2 i < 256) ∧ ∀ h' sz' T, S.2.1 ≤ sz' → sz' ≤ S.2.1 + 3 → (∀ q, B + 44 ≤ q → q < B + 89 → h' q = S.1 q) → (∀ c, litR (lwT t2 ts) ts c → cOk c → clS h' sz' B (n + 1) (cU cs n c) 0 false t L) → Q (some (.int (nI n))) (h', sz', T)
set_option maxHeartbeats 2000000 in
theorem cM_X11_literal (G : xG) (l : Launch) : xM G l yX11_literal cX11_literal 2 (some FieldType.int) r_X11_literal C_X11_literal := by
  refine xM_of (fun Q => b_X11_literal_0 Q) RX11 false (s_X11_literal_0 G l) (by decide) rfl (by decide) ?_
  rintro av ⟨h, sz, cl, sl⟩ Q ⟨B, n, ts, cs, en, t, t2, L, rfl, ⟨hB, lk, em, mc, E, ad, hlk, F, W⟩, hn, hz, h1, h2, et, tl2, q⟩
  dsimp only at *
  refine ⟨Nat.le_of_ble_eq_true rfl, ?_⟩
  have ht4 : ts ≤ 400 := F.2.2.2.2.2.2.2.2.2.1
  have tl : ∀ i, t i < 256 := F.2.2.2.2.2.2.2.2.1
  simp only [q_c, x_iload, x_lload, x_aload, q_istore, q_lstore, q_astore, q_astore2, x_iinc, q_iadd, q_isub, q_imul, q_iand, q_ior, q_ixor, q_ladd, q_lsub, q_lmul, q_land, q_lor, q_lxor, q_idiv, q_irem, q_ldiv, q_lrem, q_ineg, q_lneg, q_ishl, q_ishr, q_iushr, q_lshl, q_lshr, q_lushr, q_i2l, q_l2i, q_i2b, q_i2c, q_lcmp, q_if_eq, q_if_ne, q_if_lt, q_if_ge, q_if_gt, q_if_le, q_icmp_eq, q_icmp_ne, q_icmp_lt, q_icmp_ge, q_icmp_gt, q_icmp_le, q_dup, q_pop, q_dup_x1, q_dup2, x_iret, x_zret, x_lret, x_aret, x_vret, x_call, x_callv, x_calli, x_oinit, x_mmax, x_mmin, x_mabs, x_mmaxL, x_mminL, x_mabsL, lg_cmp_ge, lg_cmp_le, lg_cmp_gt, lg_cmp_lt, lg_cmp_eq, xlk, q_xs1, q_xs2, lv_args, Value.category, List.filter_cons, List.filter_nil, Nat.reduceAdd, Nat.reduceBEq, Nat.reduceEqDiff, Nat.reduceSub, Nat.sub_zero, beq_self_eq_true, Bool.not_true, Bool.not_false, Bool.and_true, Bool.and_false, Bool.true_and, Bool.false_and, reduceIte, reduceCtorEq, Bool.false_eq_true, Nat.one_ne_zero, Nat.zero_ne_one, Nat.zero_add, Option.toList_some, Option.toList_none, List.nil_append, List.cons_append, List.take_succ_cons, List.take_zero, List.take_nil, List.drop_succ_cons, List.drop_zero, List.length_cons, List.length_nil, List.reverse_cons, List.reverse_nil, List.head?_cons, List.map_cons, List.map_nil, List.sum_cons, List.sum_nil, true_and, and_true, List.getElem?_cons_zero, List.getElem?_cons_succ, Prod.eta, x_iast, x_bald, x_bast, x_last, x_alen, xup_s, xup_a1, xup_1a, xup_uu, nr_i, nr_l, nr_o, nr_a, ft_i, ft_l, ft_o, ft_a, Nat.reduceLT, i_cl0, i_cl1, i_n1, i_m1, List.set_cons_zero, List.set_cons_succ, Nat.reduceLeDiff, Nat.le_refl, Nat.zero_le, Nat.add_zero, x_no, x_ifnull, x_ifnonnull, x_acmp_eq, x_acmp_ne, x_swl, x_tsw, x_castC, true_or, or_true, nr_z, ft_z, nr_z0, nr_z1, ft_z0, ft_z1, nr_on, nr_an, ft_on, ft_an, b_X11_literal_0, x_get, F.1, x_put, xup_uu, xup_s]
  have F1 : clF (xup h B (clC10 B 0 false lk)) B 0 false t L lk em := F.oB (fun q x => xup_n x) xup_s (by omega) (fun y => absurd y (by decide))
  have W1 : clL (xup h B (clC10 B 0 false lk)) B sz n cs mc E ad := W.fr (Nat.le_refl _) hB (fun q x y => xup_n (by omega))
  have f1 : ∀ q, q ≠ B → xup h B (clC10 B 0 false lk) q = h q := fun q x => xup_n x
  have c1 : (.inr (10, [.ref (B + 1), .ref (B + 2), .ref (B + 3), .ref (B + 3 + 10), .ref (B + 3 + 36), .ref (B + 3 + 37), .ref (B + 3 + 38), .ref (B + 3 + 39), .int 0, .int 0, .int (nI lk), .int 0]) : xE) = clC10 B 0 false lk := rfl
  rw [c1]
  generalize xup h B (clC10 B 0 false lk) = g1 at *
  refine kl_full F1 W1 (by omega) ?_
  have tp1 : g1 (B + 2) = some (.inl (1, 400, .inl (fun i => yB (t i)))) := F1.2.2.2.2.2.2.2.1
  simp only [q_c, x_iload, x_lload, x_aload, q_istore, q_lstore, q_astore, q_astore2, x_iinc, q_iadd, q_isub, q_imul, q_iand, q_ior, q_ixor, q_ladd, q_lsub, q_lmul, q_land, q_lor, q_lxor, q_idiv, q_irem, q_ldiv, q_lrem, q_ineg, q_lneg, q_ishl, q_ishr, q_iushr, q_lshl, q_lshr, q_lushr, q_i2l, q_l2i, q_i2b, q_i2c, q_lcmp, q_if_eq, q_if_ne, q_if_lt, q_if_ge, q_if_gt, q_if_le, q_icmp_eq, q_icmp_ne, q_icmp_lt, q_icmp_ge, q_icmp_gt, q_icmp_le, q_dup, q_pop, q_dup_x1, q_dup2, x_iret, x_zret, x_lret, x_aret, x_vret, x_call, x_callv, x_calli, x_oinit, x_mmax, x_mmin, x_mabs, x_mmaxL, x_mminL, x_mabsL, lg_cmp_ge, lg_cmp_le, lg_cmp_gt, lg_cmp_lt, lg_cmp_eq, xlk, q_xs1, q_xs2, lv_args, Value.category, List.filter_cons, List.filter_nil, Nat.reduceAdd, Nat.reduceBEq, Nat.reduceEqDiff, Nat.reduceSub, Nat.sub_zero, beq_self_eq_true, Bool.not_true, Bool.not_false, Bool.and_true, Bool.and_false, Bool.true_and, Bool.false_and, reduceIte, reduceCtorEq, Bool.false_eq_true, Nat.one_ne_zero, Nat.zero_ne_one, Nat.zero_add, Option.toList_some, Option.toList_none, List.nil_append, List.cons_append, List.take_succ_cons, List.take_zero, List.take_nil, List.drop_succ_cons, List.drop_zero, List.length_cons, List.length_nil, List.reverse_cons, List.reverse_nil, List.head?_cons, List.map_cons, List.map_nil, List.sum_cons, List.sum_nil, true_and, and_true, List.getElem?_cons_zero, List.getElem?_cons_succ, Prod.eta, x_iast, x_bald, x_bast, x_last, x_alen, xup_s, xup_a1, xup_1a, xup_uu, nr_i, nr_l, nr_o, nr_a, ft_i, ft_l, ft_o, ft_a, Nat.reduceLT, i_cl0, i_cl1, i_n1, i_m1, List.set_cons_zero, List.set_cons_succ, Nat.reduceLeDiff, Nat.le_refl, Nat.zero_le, Nat.add_zero, x_no, x_ifnull, x_ifnonnull, x_acmp_eq, x_acmp_ne, x_swl, x_tsw, x_castC, true_or, or_true, nr_z, ft_z, nr_z0, nr_z1, ft_z0, ft_z1, nr_on, nr_an, ft_on, ft_an, true_implies, not_true_eq_false, false_implies, and_true, x_get, F1.1]
  refine ⟨by omega, by omega, B + 2, ts, t, t2, rfl, tp1, tl, ?_, ht4, Nat.le_refl _, Nat.le_refl _, et, tl2, fun g2 T2 o2 wt2 => ?_⟩
  · show B + 2 ≠ sz
    omega
  dsimp only at o2 wt2
  have F2 := F1.nw (h' := g2) hB (fun q x => o2 q (by omega))
  have W2 := W1.nw (h' := g2) hB (fun q x => o2 q (by omega))
  try simp only [q_c, x_iload, x_lload, x_aload, q_istore, q_lstore, q_astore, q_astore2, x_iinc, q_iadd, q_isub, q_imul, q_iand, q_ior, q_ixor, q_ladd, q_lsub, q_lmul, q_land, q_lor, q_lxor, q_idiv, q_irem, q_ldiv, q_lrem, q_ineg, q_lneg, q_ishl, q_ishr, q_iushr, q_lshl, q_lshr, q_lushr, q_i2l, q_l2i, q_i2b, q_i2c, q_lcmp, q_if_eq, q_if_ne, q_if_lt, q_if_ge, q_if_gt, q_if_le, q_icmp_eq, q_icmp_ne, q_icmp_lt, q_icmp_ge, q_icmp_gt, q_icmp_le, q_dup, q_pop, q_dup_x1, q_dup2, x_iret, x_zret, x_lret, x_aret, x_vret, x_call, x_callv, x_calli, x_oinit, x_mmax, x_mmin, x_mabs, x_mmaxL, x_mminL, x_mabsL, lg_cmp_ge, lg_cmp_le, lg_cmp_gt, lg_cmp_lt, lg_cmp_eq, xlk, q_xs1, q_xs2, lv_args, Value.category, List.filter_cons, List.filter_nil, Nat.reduceAdd, Nat.reduceBEq, Nat.reduceEqDiff, Nat.reduceSub, Nat.sub_zero, beq_self_eq_true, Bool.not_true, Bool.not_false, Bool.and_true, Bool.and_false, Bool.true_and, Bool.false_and, reduceIte, reduceCtorEq, Bool.false_eq_true, Nat.one_ne_zero, Nat.zero_ne_one, Nat.zero_add, Option.toList_some, Option.toList_none, List.nil_append, List.cons_append, List.take_succ_cons, List.take_zero, List.take_nil, List.drop_succ_cons, List.drop_zero, List.length_cons, List.length_nil, List.reverse_cons, List.reverse_nil, List.head?_cons, List.map_cons, List.map_nil, List.sum_cons, List.sum_nil, true_and, and_true, List.getElem?_cons_zero, List.getElem?_cons_succ, Prod.eta, x_iast, x_bald, x_bast, x_last, x_alen, xup_s, xup_a1, xup_1a, xup_uu, nr_i, nr_l, nr_o, nr_a, ft_i, ft_l, ft_o, ft_a, Nat.reduceLT, i_cl0, i_cl1, i_n1, i_m1, List.set_cons_zero, List.set_cons_succ, Nat.reduceLeDiff, Nat.le_refl, Nat.zero_le, Nat.add_zero, x_no, x_ifnull, x_ifnonnull, x_acmp_eq, x_acmp_ne, x_swl, x_tsw, x_castC, true_or, or_true, nr_z, ft_z, nr_z0, nr_z1, ft_z0, ft_z1, nr_on, nr_an, ft_on, ft_an]
  refine ⟨⟨_, _, rfl, F2.1⟩, by omega, by omega, B, 0, lk, sz, ts, false, em, t2, rfl, F2.1, F2.2.1, F2.2.2.2.2.1, wt2, by omega, Nat.lt_succ_self _, Nat.le_refl _, Nat.le_refl _, fun g3 em3 T3 ok op e' p' m a b hr f3 we wr wt3 v => ?_⟩
  dsimp only at f3 v
  have F3 := F2.f2 (h' := g3) (fun q x y => f3 q (by omega) (by omega) (by omega) (by omega)) we wr
  have W3 : clL g3 B (sz + 1 + 1) n cs mc E ad := W1.fr (by omega) hB (fun q x y => (f3 q (by omega) (by omega) (by omega) (by omega)).trans (o2 q (by omega)))
  try simp only [q_c, x_iload, x_lload, x_aload, q_istore, q_lstore, q_astore, q_astore2, x_iinc, q_iadd, q_isub, q_imul, q_iand, q_ior, q_ixor, q_ladd, q_lsub, q_lmul, q_land, q_lor, q_lxor, q_idiv, q_irem, q_ldiv, q_lrem, q_ineg, q_lneg, q_ishl, q_ishr, q_iushr, q_lshl, q_lshr, q_lushr, q_i2l, q_l2i, q_i2b, q_i2c, q_lcmp, q_if_eq, q_if_ne, q_if_lt, q_if_ge, q_if_gt, q_if_le, q_icmp_eq, q_icmp_ne, q_icmp_lt, q_icmp_ge, q_icmp_gt, q_icmp_le, q_dup, q_pop, q_dup_x1, q_dup2, x_iret, x_zret, x_lret, x_aret, x_vret, x_call, x_callv, x_calli, x_oinit, x_mmax, x_mmin, x_mabs, x_mmaxL, x_mminL, x_mabsL, lg_cmp_ge, lg_cmp_le, lg_cmp_gt, lg_cmp_lt, lg_cmp_eq, xlk, q_xs1, q_xs2, lv_args, Value.category, List.filter_cons, List.filter_nil, Nat.reduceAdd, Nat.reduceBEq, Nat.reduceEqDiff, Nat.reduceSub, Nat.sub_zero, beq_self_eq_true, Bool.not_true, Bool.not_false, Bool.and_true, Bool.and_false, Bool.true_and, Bool.false_and, reduceIte, reduceCtorEq, Bool.false_eq_true, Nat.one_ne_zero, Nat.zero_ne_one, Nat.zero_add, Option.toList_some, Option.toList_none, List.nil_append, List.cons_append, List.take_succ_cons, List.take_zero, List.take_nil, List.drop_succ_cons, List.drop_zero, List.length_cons, List.length_nil, List.reverse_cons, List.reverse_nil, List.head?_cons, List.map_cons, List.map_nil, List.sum_cons, List.sum_nil, true_and, and_true, List.getElem?_cons_zero, List.getElem?_cons_succ, Prod.eta, x_iast, x_bald, x_bast, x_last, x_alen, xup_s, xup_a1, xup_1a, xup_uu, nr_i, nr_l, nr_o, nr_a, ft_i, ft_l, ft_o, ft_a, Nat.reduceLT, i_cl0, i_cl1, i_n1, i_m1, List.set_cons_zero, List.set_cons_succ, Nat.reduceLeDiff, Nat.le_refl, Nat.zero_le, Nat.add_zero, x_no, x_ifnull, x_ifnonnull, x_acmp_eq, x_acmp_ne, x_swl, x_tsw, x_castC, true_or, or_true, nr_z, ft_z, nr_z0, nr_z1, ft_z0, ft_z1, nr_on, nr_an, ft_on, ft_an]
  refine ⟨⟨_, _, rfl, F3.1⟩, by omega, by omega, kl_keep2 F3 W3 (by omega) hlk ⟨by omega, by omega⟩ v hn (fun h4 sz4 T4 b1 b2 b3 b4 => ?_)⟩
  refine q h4 sz4 _ (by omega) (by omega) (fun q x y => (b3 q x y).trans ((f3 q (by omega) (by omega) (by omega) (by omega)).trans ((o2 q (by omega)).trans (f1 q (by omega))))) (fun c hl ok' => ?_)
  have e := lit_eq ht4 hl hr
  rw [← e]
  rw [← e] at ok'
  refine b4 ?_ ok'
  by_cases d : rdB ts ok op e' p' m a b = true
  · rw [if_pos d]
    exact Or.inr (Or.inr ⟨sz, ts, lwT t2 ts, rfl, wt3, ⟨hz, by omega⟩, lwT_i t2 ts, fun ok2 op2 em2 p2 m2 a2 b2 hr2 => (lit_eq ht4 hl hr2).trans e.symm⟩)
  · rw [if_neg d]
    exact Or.inl ⟨_, rfl⟩
theorem dX11_astray_0 : decode cX11_astray 0 = .ok (.aload_n 0, 1) := by decide +kernel
theorem dX11_astray_1 : decode cX11_astray 1 = .ok (.getfield 170, 3) := by decide +kernel
theorem dX11_astray_4 : decode cX11_astray 4 = .ok (.aload_n 0, 1) := by decide +kernel
theorem dX11_astray_5 : decode cX11_astray 5 = .ok (.getfield 12, 3) := by decide +kernel
theorem dX11_astray_8 : decode cX11_astray 8 = .ok (.invokevirtual 164, 3) := by decide +kernel
theorem dX11_astray_11 : decode cX11_astray 11 = .ok (.if_icmp .ge 47, 3) := by decide +kernel
theorem dX11_astray_14 : decode cX11_astray 14 = .ok (.aload_n 0, 1) := by decide +kernel
theorem dX11_astray_15 : decode cX11_astray 15 = .ok (.aload_n 0, 1) := by decide +kernel
theorem dX11_astray_16 : decode cX11_astray 16 = .ok (.getfield 12, 3) := by decide +kernel
theorem dX11_astray_19 : decode cX11_astray 19 = .ok (.aload_n 0, 1) := by decide +kernel
theorem dX11_astray_20 : decode cX11_astray 20 = .ok (.getfield 170, 3) := by decide +kernel
theorem dX11_astray_23 : decode cX11_astray 23 = .ok (.invokevirtual 134, 3) := by decide +kernel
theorem dX11_astray_26 : decode cX11_astray 26 = .ok (.checkcast 102, 3) := by decide +kernel
theorem dX11_astray_29 : decode cX11_astray 29 = .ok (.invokevirtual 208, 3) := by decide +kernel
theorem dX11_astray_32 : decode cX11_astray 32 = .ok (.ifCond .eq 13, 3) := by decide +kernel
theorem dX11_astray_35 : decode cX11_astray 35 = .ok (.aload_n 0, 1) := by decide +kernel
theorem dX11_astray_36 : decode cX11_astray 36 = .ok (.dup, 1) := by decide +kernel
theorem dX11_astray_37 : decode cX11_astray 37 = .ok (.getfield 173, 3) := by decide +kernel
theorem dX11_astray_40 : decode cX11_astray 40 = .ok (.iconst 1, 1) := by decide +kernel
theorem dX11_astray_41 : decode cX11_astray 41 = .ok (.iadd, 1) := by decide +kernel
theorem dX11_astray_42 : decode cX11_astray 42 = .ok (.putfield 173, 3) := by decide +kernel
theorem dX11_astray_45 : decode cX11_astray 45 = .ok (.aload_n 0, 1) := by decide +kernel
theorem dX11_astray_46 : decode cX11_astray 46 = .ok (.dup, 1) := by decide +kernel
theorem dX11_astray_47 : decode cX11_astray 47 = .ok (.getfield 170, 3) := by decide +kernel
theorem dX11_astray_50 : decode cX11_astray 50 = .ok (.iconst 1, 1) := by decide +kernel
theorem dX11_astray_51 : decode cX11_astray 51 = .ok (.iadd, 1) := by decide +kernel
theorem dX11_astray_52 : decode cX11_astray 52 = .ok (.putfield 170, 3) := by decide +kernel
theorem dX11_astray_55 : decode cX11_astray 55 = .ok (.goto (-55), 3) := by decide +kernel
theorem dX11_astray_58 : decode cX11_astray 58 = .ok (.aload_n 0, 1) := by decide +kernel
theorem dX11_astray_59 : decode cX11_astray 59 = .ok (.getfield 173, 3) := by decide +kernel
theorem dX11_astray_62 : decode cX11_astray 62 = .ok (.ireturn, 1) := by decide +kernel
abbrev r_X11_astray : Room := { frames := 9, cells := 0, slots := 0, locals := 200 }
abbrev m_X11_astray : xMd := (cX11_astray, RX11, 1, (some FieldType.int), false, r_X11_astray)
def b_X11_astray_45 (Q : xQ) (K0 : xK) : xK := x_aload 0 <| x_dup <| x_get 10 10 <| x_c (.int 1) <| x_iadd <| x_put 10 10 .int <| K0
def b_X11_astray_0 (Q : xQ) (K0 : xK) : xK := x_aload 0 <| x_get 10 10 <| x_aload 0 <| x_get 10 0 <| x_callv 0 C_Jx4a65c_size_8abf5 1 0 0 <| x_icmp_ge (x_aload 0 <| x_get 10 11 <| x_iret Q) <| x_aload 0 <| x_aload 0 <| x_get 10 0 <| x_aload 0 <| x_get 10 10 <| x_callv 0 C_Jx4a65c_get_915e3 2 0 0 <| x_castC <| x_callv 10 C_X11_isAstray 2 0 0 <| x_if_eq ((b_X11_astray_45 Q K0)) <| x_aload 0 <| x_dup <| x_get 10 11 <| x_c (.int 1) <| x_iadd <| x_put 10 11 .int <| (b_X11_astray_45 Q K0)
theorem s_X11_astray_45 (G : xG) (l : Launch) (Q : xQ) (K0 : xK) (h0 : xW G l m_X11_astray xX0 (xPm G Q r_X11_astray) 0 K0) : xW G l m_X11_astray xX0 (xPm G Q r_X11_astray) 45 (b_X11_astray_45 Q K0) := xo_aload_n (pc := 45) (i := 0) dX11_astray_45 rfl <| xo_dup (pc := 46) dX11_astray_46 <| xo_get (pc := 47) (ci := 10) (i := 10) rfl ok10 (by decide) dX11_astray_47 kw269 <| xo_iconst (pc := 50) dX11_astray_50 (by decide) <| xo_iadd (pc := 51) dX11_astray_51 <| xo_put (pc := 52) (ci := 10) (i := 10) rfl ok10 (by decide) rfl rfl dX11_astray_52 kw269 <| xo_goto (pc := 55) (tgt := 0) dX11_astray_55 (by decide) <| h0
theorem s_X11_astray_0 (G : xG) (l : Launch) (Q : xQ) (K0 : xK) (h0 : xW G l m_X11_astray xX0 (xPm G Q r_X11_astray) 0 K0) : xW G l m_X11_astray xX0 (xPm G Q r_X11_astray) 0 (b_X11_astray_0 Q K0) := xo_aload_n (pc := 0) (i := 0) dX11_astray_0 rfl <| xo_get (pc := 1) (ci := 10) (i := 10) rfl ok10 (by decide) dX11_astray_1 kw269 <| xo_aload_n (pc := 4) (i := 0) dX11_astray_4 rfl <| xo_get (pc := 5) (ci := 10) (i := 0) rfl ok10 (by decide) dX11_astray_5 kw259 <| xo_callV (pc := 8) (np := 0) (ci := 0) rfl (cM_Jx4a65c_size_8abf5 G l) dX11_astray_8 kw319 kw316 kw317 kw318 kw4 (by decide +kernel) (by decide) <| xo_icmp_ge (pc := 11) (tgt := 58) dX11_astray_11 (by decide) (xo_aload_n (pc := 58) (i := 0) dX11_astray_58 rfl <| xo_get (pc := 59) (ci := 10) (i := 11) rfl ok10 (by decide) dX11_astray_59 kw270 <| xo_iret (pc := 62) rfl dX11_astray_62) <| xo_aload_n (pc := 14) (i := 0) dX11_astray_14 rfl <| xo_aload_n (pc := 15) (i := 0) dX11_astray_15 rfl <| xo_get (pc := 16) (ci := 10) (i := 0) rfl ok10 (by decide) dX11_astray_16 kw259 <| xo_aload_n (pc := 19) (i := 0) dX11_astray_19 rfl <| xo_get (pc := 20) (ci := 10) (i := 10) rfl ok10 (by decide) dX11_astray_20 kw269 <| xo_callV (pc := 23) (np := 1) (ci := 0) rfl (cM_Jx4a65c_get_915e3 G l) dX11_astray_23 kw795 kw792 kw793 kw794 kw4 (by decide +kernel) (by decide) <| xo_castC (pc := 26) dX11_astray_26 kw340 <| xo_callV (pc := 29) (np := 1) (ci := 10) rfl (cM_X11_isAstray G l) dX11_astray_29 kw1149 kw1146 kw1148 ks46 kw1 (by decide +kernel) (by decide) <| xo_if_eq (pc := 32) (tgt := 45) dX11_astray_32 (by decide) ((s_X11_astray_45 G l Q K0 h0)) <| xo_aload_n (pc := 35) (i := 0) dX11_astray_35 rfl <| xo_dup (pc := 36) dX11_astray_36 <| xo_get (pc := 37) (ci := 10) (i := 11) rfl ok10 (by decide) dX11_astray_37 kw270 <| xo_iconst (pc := 40) dX11_astray_40 (by decide) <| xo_iadd (pc := 41) dX11_astray_41 <| xo_put (pc := 42) (ci := 10) (i := 11) rfl ok10 (by decide) rfl rfl dX11_astray_42 kw270 <| (s_X11_astray_45 G l Q K0 h0)

def cn_X11_astray : Nat → List (Nat × Value) := fun v => [(0, .ref v)]
def I_X11_astray (Q : xQ) : Nat → Nat → xS → Prop := fun m B S => ∃ (n ts : Nat) (cs : Nat → vC) (en : Bool) (t : Nat → Nat) (L : List Nat) (lk : Nat) (em : Bool) (mc : Int32) (E : Nat) (ad : Nat → Nat), n ≤ 512 ∧ m = n - lk ∧ B + 44 ≤ S.2.1 ∧ lk ≤ n ∧ clF S.1 B ts en t L lk em ∧ clL S.1 B S.2.1 n cs mc E ad ∧ ∀ h', (∀ q, B + 44 ≤ q → q < B + 89 → h' q = S.1 q) → clS h' S.2.1 B n cs ts en t L → Q (some (.int 0)) (h', S.2)
set_option maxHeartbeats 1000000 in
theorem J_astray (G : xG) (l : Launch) (Q : xQ) : xW G l m_X11_astray xX0 (xPm G Q r_X11_astray) 0 (xInv cn_X11_astray (I_X11_astray Q)) := by
  refine xW.lp (fun K => b_X11_astray_0 Q K) (fun K hK => s_X11_astray_0 G l Q K hK) ?_
  rintro m B ⟨h, T⟩ ⟨n, ts, cs, en, t, L, lk, em, mc, E, ad, hn, rfl, hB, hlk, F, W, hQ⟩
  dsimp only at *
  have c1 : cn_X11_astray B = [(0, .ref B)] := rfl
  rw [c1]
  have c2 : nI n ≤ nI lk ↔ n ≤ lk := nc_le (by omega) (by omega)
  generalize hK : xInvL cn_X11_astray (I_X11_astray Q) (n - lk) = K
  simp only [q_c, x_iload, x_lload, x_aload, q_istore, q_lstore, q_astore, q_astore2, x_iinc, q_iadd, q_isub, q_imul, q_iand, q_ior, q_ixor, q_ladd, q_lsub, q_lmul, q_land, q_lor, q_lxor, q_idiv, q_irem, q_ldiv, q_lrem, q_ineg, q_lneg, q_ishl, q_ishr, q_iushr, q_lshl, q_lshr, q_lushr, q_i2l, q_l2i, q_i2b, q_i2c, q_lcmp, q_if_eq, q_if_ne, q_if_lt, q_if_ge, q_if_gt, q_if_le, q_icmp_eq, q_icmp_ne, q_icmp_lt, q_icmp_ge, q_icmp_gt, q_icmp_le, q_dup, q_pop, q_dup_x1, q_dup2, x_iret, x_zret, x_lret, x_aret, x_vret, x_call, x_callv, x_calli, x_oinit, x_mmax, x_mmin, x_mabs, x_mmaxL, x_mminL, x_mabsL, lg_cmp_ge, lg_cmp_le, lg_cmp_gt, lg_cmp_lt, lg_cmp_eq, xlk, q_xs1, q_xs2, lv_args, Value.category, List.filter_cons, List.filter_nil, Nat.reduceAdd, Nat.reduceBEq, Nat.reduceEqDiff, Nat.reduceSub, Nat.sub_zero, beq_self_eq_true, Bool.not_true, Bool.not_false, Bool.and_true, Bool.and_false, Bool.true_and, Bool.false_and, reduceIte, reduceCtorEq, Bool.false_eq_true, Nat.one_ne_zero, Nat.zero_ne_one, Nat.zero_add, Option.toList_some, Option.toList_none, List.nil_append, List.cons_append, List.take_succ_cons, List.take_zero, List.take_nil, List.drop_succ_cons, List.drop_zero, List.length_cons, List.length_nil, List.reverse_cons, List.reverse_nil, List.head?_cons, List.map_cons, List.map_nil, List.sum_cons, List.sum_nil, true_and, and_true, List.getElem?_cons_zero, List.getElem?_cons_succ, Prod.eta, x_iast, x_bald, x_bast, x_last, x_alen, xup_s, xup_a1, xup_1a, xup_uu, nr_i, nr_l, nr_o, nr_a, ft_i, ft_l, ft_o, ft_a, Nat.reduceLT, i_cl0, i_cl1, i_n1, i_m1, List.set_cons_zero, List.set_cons_succ, Nat.reduceLeDiff, Nat.le_refl, Nat.zero_le, Nat.add_zero, x_no, x_ifnull, x_ifnonnull, x_acmp_eq, x_acmp_ne, x_swl, x_tsw, x_castC, true_or, or_true, nr_z, ft_z, nr_z0, nr_z1, ft_z0, ft_z1, nr_on, nr_an, ft_on, ft_an, b_X11_astray_0, b_X11_astray_45, x_get, F.1]
  refine ⟨⟨_, _, rfl, W.1⟩, B + 1, mc, E, n, rfl, W.1, ?_⟩
  simp only [q_c, x_iload, x_lload, x_aload, q_istore, q_lstore, q_astore, q_astore2, x_iinc, q_iadd, q_isub, q_imul, q_iand, q_ior, q_ixor, q_ladd, q_lsub, q_lmul, q_land, q_lor, q_lxor, q_idiv, q_irem, q_ldiv, q_lrem, q_ineg, q_lneg, q_ishl, q_ishr, q_iushr, q_lshl, q_lshr, q_lushr, q_i2l, q_l2i, q_i2b, q_i2c, q_lcmp, q_if_eq, q_if_ne, q_if_lt, q_if_ge, q_if_gt, q_if_le, q_icmp_eq, q_icmp_ne, q_icmp_lt, q_icmp_ge, q_icmp_gt, q_icmp_le, q_dup, q_pop, q_dup_x1, q_dup2, x_iret, x_zret, x_lret, x_aret, x_vret, x_call, x_callv, x_calli, x_oinit, x_mmax, x_mmin, x_mabs, x_mmaxL, x_mminL, x_mabsL, lg_cmp_ge, lg_cmp_le, lg_cmp_gt, lg_cmp_lt, lg_cmp_eq, xlk, q_xs1, q_xs2, lv_args, Value.category, List.filter_cons, List.filter_nil, Nat.reduceAdd, Nat.reduceBEq, Nat.reduceEqDiff, Nat.reduceSub, Nat.sub_zero, beq_self_eq_true, Bool.not_true, Bool.not_false, Bool.and_true, Bool.and_false, Bool.true_and, Bool.false_and, reduceIte, reduceCtorEq, Bool.false_eq_true, Nat.one_ne_zero, Nat.zero_ne_one, Nat.zero_add, Option.toList_some, Option.toList_none, List.nil_append, List.cons_append, List.take_succ_cons, List.take_zero, List.take_nil, List.drop_succ_cons, List.drop_zero, List.length_cons, List.length_nil, List.reverse_cons, List.reverse_nil, List.head?_cons, List.map_cons, List.map_nil, List.sum_cons, List.sum_nil, true_and, and_true, List.getElem?_cons_zero, List.getElem?_cons_succ, Prod.eta, x_iast, x_bald, x_bast, x_last, x_alen, xup_s, xup_a1, xup_1a, xup_uu, nr_i, nr_l, nr_o, nr_a, ft_i, ft_l, ft_o, ft_a, Nat.reduceLT, i_cl0, i_cl1, i_n1, i_m1, List.set_cons_zero, List.set_cons_succ, Nat.reduceLeDiff, Nat.le_refl, Nat.zero_le, Nat.add_zero, x_no, x_ifnull, x_ifnonnull, x_acmp_eq, x_acmp_ne, x_swl, x_tsw, x_castC, true_or, or_true, nr_z, ft_z, nr_z0, nr_z1, ft_z0, ft_z1, nr_on, nr_an, ft_on, ft_an, c2, x_get, F.1]
  refine ⟨fun y => hQ h (fun _ _ _ => rfl) ⟨hB, lk, em, mc, E, ad, hlk, F, W⟩, fun y => ?_⟩
  have hi : lk < n := by omega
  obtain ⟨a1, a2, a3, R1, a4, a5⟩ := W.ce hi
  refine kl_get W hn hi ?_
  simp only [q_c, x_iload, x_lload, x_aload, q_istore, q_lstore, q_astore, q_astore2, x_iinc, q_iadd, q_isub, q_imul, q_iand, q_ior, q_ixor, q_ladd, q_lsub, q_lmul, q_land, q_lor, q_lxor, q_idiv, q_irem, q_ldiv, q_lrem, q_ineg, q_lneg, q_ishl, q_ishr, q_iushr, q_lshl, q_lshr, q_lushr, q_i2l, q_l2i, q_i2b, q_i2c, q_lcmp, q_if_eq, q_if_ne, q_if_lt, q_if_ge, q_if_gt, q_if_le, q_icmp_eq, q_icmp_ne, q_icmp_lt, q_icmp_ge, q_icmp_gt, q_icmp_le, q_dup, q_pop, q_dup_x1, q_dup2, x_iret, x_zret, x_lret, x_aret, x_vret, x_call, x_callv, x_calli, x_oinit, x_mmax, x_mmin, x_mabs, x_mmaxL, x_mminL, x_mabsL, lg_cmp_ge, lg_cmp_le, lg_cmp_gt, lg_cmp_lt, lg_cmp_eq, xlk, q_xs1, q_xs2, lv_args, Value.category, List.filter_cons, List.filter_nil, Nat.reduceAdd, Nat.reduceBEq, Nat.reduceEqDiff, Nat.reduceSub, Nat.sub_zero, beq_self_eq_true, Bool.not_true, Bool.not_false, Bool.and_true, Bool.and_false, Bool.true_and, Bool.false_and, reduceIte, reduceCtorEq, Bool.false_eq_true, Nat.one_ne_zero, Nat.zero_ne_one, Nat.zero_add, Option.toList_some, Option.toList_none, List.nil_append, List.cons_append, List.take_succ_cons, List.take_zero, List.take_nil, List.drop_succ_cons, List.drop_zero, List.length_cons, List.length_nil, List.reverse_cons, List.reverse_nil, List.head?_cons, List.map_cons, List.map_nil, List.sum_cons, List.sum_nil, true_and, and_true, List.getElem?_cons_zero, List.getElem?_cons_succ, Prod.eta, x_iast, x_bald, x_bast, x_last, x_alen, xup_s, xup_a1, xup_1a, xup_uu, nr_i, nr_l, nr_o, nr_a, ft_i, ft_l, ft_o, ft_a, Nat.reduceLT, i_cl0, i_cl1, i_n1, i_m1, List.set_cons_zero, List.set_cons_succ, Nat.reduceLeDiff, Nat.le_refl, Nat.zero_le, Nat.add_zero, x_no, x_ifnull, x_ifnonnull, x_acmp_eq, x_acmp_ne, x_swl, x_tsw, x_castC, true_or, or_true, nr_z, ft_z, nr_z0, nr_z1, ft_z0, ft_z1, nr_on, nr_an, ft_on, ft_an, a4.1, true_and]
  refine ⟨⟨_, _, rfl, F.1⟩, B, ts, lk, T.1, ad lk, en, em, cs lk, R1, rfl, F.1, F.2.1, F.2.2.2.2.1, a1, a4, a3, a5, fun h2 em2 f2 we wr => ?_⟩
  dsimp only at f2
  have F2 := F.f2 (h' := h2) (fun q x y => f2 q (by omega) (by omega)) we wr
  have e1 : nI lk + 1 = nI (lk + 1) := nI_p1 _
  simp only [q_c, x_iload, x_lload, x_aload, q_istore, q_lstore, q_astore, q_astore2, x_iinc, q_iadd, q_isub, q_imul, q_iand, q_ior, q_ixor, q_ladd, q_lsub, q_lmul, q_land, q_lor, q_lxor, q_idiv, q_irem, q_ldiv, q_lrem, q_ineg, q_lneg, q_ishl, q_ishr, q_iushr, q_lshl, q_lshr, q_lushr, q_i2l, q_l2i, q_i2b, q_i2c, q_lcmp, q_if_eq, q_if_ne, q_if_lt, q_if_ge, q_if_gt, q_if_le, q_icmp_eq, q_icmp_ne, q_icmp_lt, q_icmp_ge, q_icmp_gt, q_icmp_le, q_dup, q_pop, q_dup_x1, q_dup2, x_iret, x_zret, x_lret, x_aret, x_vret, x_call, x_callv, x_calli, x_oinit, x_mmax, x_mmin, x_mabs, x_mmaxL, x_mminL, x_mabsL, lg_cmp_ge, lg_cmp_le, lg_cmp_gt, lg_cmp_lt, lg_cmp_eq, xlk, q_xs1, q_xs2, lv_args, Value.category, List.filter_cons, List.filter_nil, Nat.reduceAdd, Nat.reduceBEq, Nat.reduceEqDiff, Nat.reduceSub, Nat.sub_zero, beq_self_eq_true, Bool.not_true, Bool.not_false, Bool.and_true, Bool.and_false, Bool.true_and, Bool.false_and, reduceIte, reduceCtorEq, Bool.false_eq_true, Nat.one_ne_zero, Nat.zero_ne_one, Nat.zero_add, Option.toList_some, Option.toList_none, List.nil_append, List.cons_append, List.take_succ_cons, List.take_zero, List.take_nil, List.drop_succ_cons, List.drop_zero, List.length_cons, List.length_nil, List.reverse_cons, List.reverse_nil, List.head?_cons, List.map_cons, List.map_nil, List.sum_cons, List.sum_nil, true_and, and_true, List.getElem?_cons_zero, List.getElem?_cons_succ, Prod.eta, x_iast, x_bald, x_bast, x_last, x_alen, xup_s, xup_a1, xup_1a, xup_uu, nr_i, nr_l, nr_o, nr_a, ft_i, ft_l, ft_o, ft_a, Nat.reduceLT, i_cl0, i_cl1, i_n1, i_m1, List.set_cons_zero, List.set_cons_succ, Nat.reduceLeDiff, Nat.le_refl, Nat.zero_le, Nat.add_zero, x_no, x_ifnull, x_ifnonnull, x_acmp_eq, x_acmp_ne, x_swl, x_tsw, x_castC, true_or, or_true, nr_z, ft_z, nr_z0, nr_z1, ft_z0, ft_z1, nr_on, nr_an, ft_on, ft_an, true_implies, not_true_eq_false, false_implies, and_true, x_get, x_put, F2.1, e1]
  have F3 : clF (xup h2 B (clC10 B (nI ts) en (lk + 1))) B ts en t L (lk + 1) em2 := F2.oB (fun q x => xup_n x) xup_s F.2.2.2.2.2.2.2.2.2.1 F.2.2.2.2.2.2.2.2.2.2
  have W3 : clL (xup h2 B (clC10 B (nI ts) en (lk + 1))) B T.1 n cs mc E ad := W.fr (Nat.le_refl _) hB (fun q x y => (xup_n (by omega)).trans (f2 q (by omega) (by omega)))
  rw [← hK]
  refine xInvL.mk (n - (lk + 1)) B (by omega) ⟨rfl, trivial⟩ ⟨n, ts, cs, en, t, L, lk + 1, em2, mc, E, ad, hn, rfl, hB, by omega, F3, W3, fun h' f' s' => hQ h' (fun q x y => (f' q x y).trans ((xup_n (by omega)).trans (f2 q (by omega) (by omega)))) s'⟩
def C_X11_astray : xC := fun av S Q => ∃ (B n ts : Nat) (cs : Nat → vC) (en : Bool) (t : Nat → Nat) (L : List Nat), av = [.ref B] ∧ clS S.1 S.2.1 B n cs ts en t L ∧ n ≤ 512 ∧ ∀ h', (∀ q, B + 44 ≤ q → q < B + 89 → h' q = S.1 q) → clS h' S.2.1 B n cs ts en t L → Q (some (.int 0)) (h', S.2)
theorem cM_X11_astray (G : xG) (l : Launch) : xM G l yX11_astray cX11_astray 1 (some FieldType.int) r_X11_astray C_X11_astray := by
  refine xM_of (fun Q => xInv cn_X11_astray (I_X11_astray Q)) RX11 false (fun Q => J_astray G l Q) (by decide) rfl (by decide) ?_
  rintro av ⟨h, T⟩ Q ⟨B, n, ts, cs, en, t, L, rfl, ⟨hB, lk, em, mc, E, ad, hlk, F, W⟩, hn, hQ⟩
  dsimp only at *
  refine ⟨Nat.le_of_ble_eq_true rfl, ?_⟩
  exact xInv.mk (n - lk) B ⟨rfl, trivial⟩ ⟨n, ts, cs, en, t, L, lk, em, mc, E, ad, hn, rfl, hB, hlk, F, W, hQ⟩
