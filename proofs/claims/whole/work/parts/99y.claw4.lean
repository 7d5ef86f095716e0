/-! the law's loop -/
theorem q_slen {b N : Nat} {xs : Nat → Int32} {k : xK} {lv : List (Nat × Value)} {r : List Value} {S : xS} : x_slen b N xs k lv (.ref b :: r) S = k lv (.int (nI N) :: r) S := by
  unfold x_slen
  dsimp only
  exact propext ⟨fun x => x.2, fun x => ⟨rfl, x⟩⟩
def cn_L (b : Nat) : Nat × Nat → List (Nat × Value) := fun v => [(0, .ref b), (1, .ref v.1), (2, .ref (v.1 + 44)), (3, .int (nI (6 * v.2)))]
def I_L : Nat → Nat × Nat → xS → Prop := fun m v S => ∃ n, v.2 ≤ 512 ∧ m = 512 - v.2 ∧ n ≤ v.2 ∧ lwI S.1 S.2.1 v.1 n ∧ 6 * (512 - v.2) ≤ S.2.2.1 ∧ 2331 * (512 - v.2) ≤ S.2.2.2
theorem lw_cnd {N j : Nat} (hN : N ≤ 3072) (hj : j ≤ 512) : nI N - 6 < nI (6 * j) ↔ (N : Int) - 6 < 6 * (j : Int) := by
  rw [show nI N - 6 = iZ ((N : Int) - 6) by rw [← iZ_nat N, show (6 : Int32) = iZ 6 from rfl]; exact (Int32.ofInt_sub _ _).symm, i_lt, iZ_toInt (by omega) (by omega), nI_toInt (by omega)]
  omega
set_option maxHeartbeats 2000000 in
theorem J_law (G : xG) (l : Launch) {b N : Nat} {xs : Nat → Int32} {KR : xK} {P : xP} (hN : N ≤ 3072) (hR : xW G l m_L_law (lX G b N xs) P 856 KR) (hKR : ∀ lv S, KR lv [.int 1] S) : xW G l m_L_law (lX G b N xs) P 18 (xInv (cn_L b) I_L) := by
  refine xW.lp (fun K => b_L_law_18 b N xs KR K) (fun K hK => s_L_law_18 G l b N xs KR P hR K hK) ?_
  rintro m ⟨B, j⟩ ⟨h, sz, cl, sl⟩ ⟨n, hj, rfl, hn, w, hc, hs⟩
  dsimp only at *
  have c1 : cn_L b (B, j) = [(0, .ref b), (1, .ref B), (2, .ref (B + 44)), (3, .int (nI (6 * j)))] := rfl
  rw [c1]
  generalize hK : xInvL (cn_L b) I_L (512 - j) = K
  have e6 : nI (6 * j) + Int32.ofInt 6 = nI (6 * (j + 1)) := nI_plus (6 * j) 6
  have fin : 6 * j + 6 ≤ N → lwK (b_L_law_849 b N xs KR K) [(0, .ref b), (1, .ref B), (2, .ref (B + 44)), (3, .int (nI (6 * j)))] B n cl sl := by
    intro hj6 h' sz' cl' sl' n' w' a1 a2 a3
    unfold b_L_law_849
    simp only [q_c, x_iload, x_lload, x_aload, q_istore, q_lstore, q_astore, q_astore2, x_iinc, q_iadd, q_isub, q_imul, q_iand, q_ior, q_ixor, q_ladd, q_lsub, q_lmul, q_land, q_lor, q_lxor, q_idiv, q_irem, q_ldiv, q_lrem, q_ineg, q_lneg, q_ishl, q_ishr, q_iushr, q_lshl, q_lshr, q_lushr, q_i2l, q_l2i, q_i2b, q_i2c, q_lcmp, q_if_eq, q_if_ne, q_if_lt, q_if_ge, q_if_gt, q_if_le, q_icmp_eq, q_icmp_ne, q_icmp_lt, q_icmp_ge, q_icmp_gt, q_icmp_le, q_dup, q_pop, q_dup_x1, q_dup2, x_iret, x_zret, x_lret, x_aret, x_vret, x_call, x_callv, x_calli, x_oinit, x_mmax, x_mmin, x_mabs, x_mmaxL, x_mminL, x_mabsL, lg_cmp_ge, lg_cmp_le, lg_cmp_gt, lg_cmp_lt, lg_cmp_eq, xlk, q_xs1, q_xs2, lv_args, Value.category, List.filter_cons, List.filter_nil, Nat.reduceAdd, Nat.reduceBEq, Nat.reduceEqDiff, Nat.reduceSub, Nat.sub_zero, beq_self_eq_true, Bool.not_true, Bool.not_false, Bool.and_true, Bool.and_false, Bool.true_and, Bool.false_and, reduceIte, reduceCtorEq, Bool.false_eq_true, Nat.one_ne_zero, Nat.zero_ne_one, Nat.zero_add, Option.toList_some, Option.toList_none, List.nil_append, List.cons_append, List.take_succ_cons, List.take_zero, List.take_nil, List.drop_succ_cons, List.drop_zero, List.length_cons, List.length_nil, List.reverse_cons, List.reverse_nil, List.head?_cons, List.map_cons, List.map_nil, List.sum_cons, List.sum_nil, true_and, and_true, List.getElem?_cons_zero, List.getElem?_cons_succ, Prod.eta, x_iast, x_bald, x_bast, x_last, x_alen, xup_s, xup_a1, xup_1a, xup_uu, nr_i, nr_l, nr_o, nr_a, ft_i, ft_l, ft_o, ft_a, Nat.reduceLT, i_cl0, i_cl1, i_n1, i_m1, List.set_cons_zero, List.set_cons_succ, Nat.reduceLeDiff, Nat.le_refl, Nat.zero_le, Nat.add_zero, x_no, x_ifnull, x_ifnonnull, x_acmp_eq, x_acmp_ne, x_swl, x_tsw, x_castC, true_or, or_true, nr_z, ft_z, nr_z0, nr_z1, ft_z0, ft_z1, nr_on, nr_an, ft_on, ft_an, e6]
    rw [← hK]
    exact xInvL.mk (512 - (j + 1)) (B, j + 1) (by omega) ⟨rfl, rfl, rfl, rfl, trivial⟩ ⟨n', show j + 1 ≤ 512 by omega, rfl, show n' ≤ j + 1 by omega, w', show 6 * (512 - (j + 1)) ≤ cl' by omega, show 2331 * (512 - (j + 1)) ≤ sl' by omega⟩
  have C : 6 * j + 6 ≤ N → lwC b N (6 * j) [(0, .ref b), (1, .ref B), (2, .ref (B + 44)), (3, .int (nI (6 * j)))] B n cl sl := fun hj6 => ⟨rfl, rfl, rfl, rfl, hj6, hN, by omega, by omega, by omega⟩
  unfold b_L_law_18
  have g132 := fun hj6 => lc_feed (xs := xs) (KR := KR) (K18 := K) (C hj6) w (fin hj6)
  have g195 := fun hj6 => lc_end (xs := xs) (KR := KR) (K18 := K) (C hj6) w (fin hj6)
  have g218 := fun hj6 => lc_literal (xs := xs) (KR := KR) (K18 := K) (C hj6) w (fin hj6)
  have g231 := fun hj6 => lc_cell (xs := xs) (KR := KR) (K18 := K) (C hj6) w (fin hj6)
  have g324 := fun hj6 => lc_mark (xs := xs) (KR := KR) (K18 := K) (C hj6) w (fin hj6)
  have g357 := fun hj6 => lc_one (xs := xs) (KR := KR) (K18 := K) (C hj6) w (fin hj6)
  have g390 := fun hj6 => lc_two (xs := xs) (KR := KR) (K18 := K) (C hj6) w (fin hj6)
  have g433 := fun hj6 => lc_fused (xs := xs) (KR := KR) (K18 := K) (C hj6) w (fin hj6)
  have g476 := fun hj6 => lc_power (xs := xs) (KR := KR) (K18 := K) (C hj6) w (fin hj6)
  have g509 := fun hj6 => lc_count (xs := xs) (KR := KR) (K18 := K) (C hj6) w (fin hj6)
  have g522 := fun hj6 => lc_clear (xs := xs) (KR := KR) (K18 := K) (C hj6) w (fin hj6)
  have g535 := fun hj6 => lc_low (xs := xs) (KR := KR) (K18 := K) (C hj6) w (fin hj6)
  have g559 := fun hj6 => lc_high (xs := xs) (KR := KR) (K18 := K) (C hj6) w (fin hj6)
  have g583 := fun hj6 => lc_markOf (xs := xs) (KR := KR) (K18 := K) (C hj6) w (fin hj6)
  have g606 := fun hj6 => lc_number (xs := xs) (KR := KR) (K18 := K) (C hj6) w (fin hj6)
  have g640 := fun hj6 => lc_is (xs := xs) (KR := KR) (K18 := K) (C hj6) w (fin hj6)
  have g673 := fun hj6 => lc_has (xs := xs) (KR := KR) (K18 := K) (C hj6) w (fin hj6)
  have g736 := fun hj6 => lc_compare (xs := xs) (KR := KR) (K18 := K) (C hj6) w (fin hj6)
  have g779 := fun hj6 => lc_write (xs := xs) (KR := KR) (K18 := K) (C hj6) w (fin hj6)
  have g812 := fun hj6 => lc_word (xs := xs) (KR := KR) (K18 := K) (C hj6) w (fin hj6)
  have g836 := fun hj6 => lc_astray (xs := xs) (KR := KR) (K18 := K) (C hj6) w (fin hj6)
  generalize b_L_law_132 b N xs KR K = Z132 at *
  generalize b_L_law_195 b N xs KR K = Z195 at *
  generalize b_L_law_218 b N xs KR K = Z218 at *
  generalize b_L_law_231 b N xs KR K = Z231 at *
  generalize b_L_law_324 b N xs KR K = Z324 at *
  generalize b_L_law_357 b N xs KR K = Z357 at *
  generalize b_L_law_390 b N xs KR K = Z390 at *
  generalize b_L_law_433 b N xs KR K = Z433 at *
  generalize b_L_law_476 b N xs KR K = Z476 at *
  generalize b_L_law_509 b N xs KR K = Z509 at *
  generalize b_L_law_522 b N xs KR K = Z522 at *
  generalize b_L_law_535 b N xs KR K = Z535 at *
  generalize b_L_law_559 b N xs KR K = Z559 at *
  generalize b_L_law_583 b N xs KR K = Z583 at *
  generalize b_L_law_606 b N xs KR K = Z606 at *
  generalize b_L_law_640 b N xs KR K = Z640 at *
  generalize b_L_law_673 b N xs KR K = Z673 at *
  generalize b_L_law_736 b N xs KR K = Z736 at *
  generalize b_L_law_779 b N xs KR K = Z779 at *
  generalize b_L_law_812 b N xs KR K = Z812 at *
  generalize b_L_law_836 b N xs KR K = Z836 at *
  have g849 := fun hj6 => fin hj6 h sz cl sl n w (by omega) (by omega) (by omega)
  generalize b_L_law_849 b N xs KR K = Z849 at *
  simp only [q_c, x_iload, x_lload, x_aload, q_istore, q_lstore, q_astore, q_astore2, x_iinc, q_iadd, q_isub, q_imul, q_iand, q_ior, q_ixor, q_ladd, q_lsub, q_lmul, q_land, q_lor, q_lxor, q_idiv, q_irem, q_ldiv, q_lrem, q_ineg, q_lneg, q_ishl, q_ishr, q_iushr, q_lshl, q_lshr, q_lushr, q_i2l, q_l2i, q_i2b, q_i2c, q_lcmp, q_if_eq, q_if_ne, q_if_lt, q_if_ge, q_if_gt, q_if_le, q_icmp_eq, q_icmp_ne, q_icmp_lt, q_icmp_ge, q_icmp_gt, q_icmp_le, q_dup, q_pop, q_dup_x1, q_dup2, x_iret, x_zret, x_lret, x_aret, x_vret, x_call, x_callv, x_calli, x_oinit, x_mmax, x_mmin, x_mabs, x_mmaxL, x_mminL, x_mabsL, lg_cmp_ge, lg_cmp_le, lg_cmp_gt, lg_cmp_lt, lg_cmp_eq, xlk, q_xs1, q_xs2, lv_args, Value.category, List.filter_cons, List.filter_nil, Nat.reduceAdd, Nat.reduceBEq, Nat.reduceEqDiff, Nat.reduceSub, Nat.sub_zero, beq_self_eq_true, Bool.not_true, Bool.not_false, Bool.and_true, Bool.and_false, Bool.true_and, Bool.false_and, reduceIte, reduceCtorEq, Bool.false_eq_true, Nat.one_ne_zero, Nat.zero_ne_one, Nat.zero_add, Option.toList_some, Option.toList_none, List.nil_append, List.cons_append, List.take_succ_cons, List.take_zero, List.take_nil, List.drop_succ_cons, List.drop_zero, List.length_cons, List.length_nil, List.reverse_cons, List.reverse_nil, List.head?_cons, List.map_cons, List.map_nil, List.sum_cons, List.sum_nil, true_and, and_true, List.getElem?_cons_zero, List.getElem?_cons_succ, Prod.eta, x_iast, x_bald, x_bast, x_last, x_alen, xup_s, xup_a1, xup_1a, xup_uu, nr_i, nr_l, nr_o, nr_a, ft_i, ft_l, ft_o, ft_a, Nat.reduceLT, i_cl0, i_cl1, i_n1, i_m1, List.set_cons_zero, List.set_cons_succ, Nat.reduceLeDiff, Nat.le_refl, Nat.zero_le, Nat.add_zero, x_no, x_ifnull, x_ifnonnull, x_acmp_eq, x_acmp_ne, x_swl, x_tsw, x_castC, true_or, or_true, nr_z, ft_z, nr_z0, nr_z1, ft_z0, ft_z1, nr_on, nr_an, ft_on, ft_an, q_slen, lw_cnd hN hj]
  refine ⟨fun y => hKR _ _, fun y => ?_⟩
  have hj6 : 6 * j + 6 ≤ N := by omega
  simp only [q_c, x_iload, x_lload, x_aload, q_istore, q_lstore, q_astore, q_astore2, x_iinc, q_iadd, q_isub, q_imul, q_iand, q_ior, q_ixor, q_ladd, q_lsub, q_lmul, q_land, q_lor, q_lxor, q_idiv, q_irem, q_ldiv, q_lrem, q_ineg, q_lneg, q_ishl, q_ishr, q_iushr, q_lshl, q_lshr, q_lushr, q_i2l, q_l2i, q_i2b, q_i2c, q_lcmp, q_if_eq, q_if_ne, q_if_lt, q_if_ge, q_if_gt, q_if_le, q_icmp_eq, q_icmp_ne, q_icmp_lt, q_icmp_ge, q_icmp_gt, q_icmp_le, q_dup, q_pop, q_dup_x1, q_dup2, x_iret, x_zret, x_lret, x_aret, x_vret, x_call, x_callv, x_calli, x_oinit, x_mmax, x_mmin, x_mabs, x_mmaxL, x_mminL, x_mabsL, lg_cmp_ge, lg_cmp_le, lg_cmp_gt, lg_cmp_lt, lg_cmp_eq, xlk, q_xs1, q_xs2, lv_args, Value.category, List.filter_cons, List.filter_nil, Nat.reduceAdd, Nat.reduceBEq, Nat.reduceEqDiff, Nat.reduceSub, Nat.sub_zero, beq_self_eq_true, Bool.not_true, Bool.not_false, Bool.and_true, Bool.and_false, Bool.true_and, Bool.false_and, reduceIte, reduceCtorEq, Bool.false_eq_true, Nat.one_ne_zero, Nat.zero_ne_one, Nat.zero_add, Option.toList_some, Option.toList_none, List.nil_append, List.cons_append, List.take_succ_cons, List.take_zero, List.take_nil, List.drop_succ_cons, List.drop_zero, List.length_cons, List.length_nil, List.reverse_cons, List.reverse_nil, List.head?_cons, List.map_cons, List.map_nil, List.sum_cons, List.sum_nil, true_and, and_true, List.getElem?_cons_zero, List.getElem?_cons_succ, Prod.eta, x_iast, x_bald, x_bast, x_last, x_alen, xup_s, xup_a1, xup_1a, xup_uu, nr_i, nr_l, nr_o, nr_a, ft_i, ft_l, ft_o, ft_a, Nat.reduceLT, i_cl0, i_cl1, i_n1, i_m1, List.set_cons_zero, List.set_cons_succ, Nat.reduceLeDiff, Nat.le_refl, Nat.zero_le, Nat.add_zero, x_no, x_ifnull, x_ifnonnull, x_acmp_eq, x_acmp_ne, x_swl, x_tsw, x_castC, true_or, or_true, nr_z, ft_z, nr_z0, nr_z1, ft_z0, ft_z1, nr_on, nr_an, ft_on, ft_an, q_sld (show 6 * j < N by omega) hN, x_tsw, x_swl]
  refine ⟨⟨fun _ => g132 hj6, fun _ => g195 hj6, fun _ => g218 hj6, fun _ => g231 hj6, fun _ => g324 hj6, fun _ => g357 hj6, fun _ => g390 hj6, fun _ => g433 hj6, fun _ => g476 hj6, fun _ => g509 hj6, fun _ => g522 hj6, fun _ => g535 hj6, fun _ => g559 hj6, fun _ => g583 hj6, fun _ => g606 hj6, fun _ => g640 hj6, fun _ => g673 hj6, fun _ => g736 hj6, fun _ => g779 hj6, fun _ => g812 hj6, fun _ => g836 hj6⟩, fun _ => g849 hj6⟩
