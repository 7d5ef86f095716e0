theorem cmp_nat {L R : Nat} {m a b : Int} (ha : m ≤ a) (hb : m ≤ b) : (if L * 2 ^ (a - m).toNat < R * 2 ^ (b - m).toNat then (-1 : Int32) else if L * 2 ^ (a - m).toNat = R * 2 ^ (b - m).toNat then 0 else 1) = cmpR ((L : Rat) * p2 a) ((R : Rat) * p2 b) := by
  unfold cmpR
  simp only [sr_lt ha hb, sr_eq ha hb]
/-- the number of bits decides -/
theorem bits_lt {L R : Nat} {a b : Int} (hL : L ≠ 0) (hR : R ≠ 0) (h : (nb L : Int) + a < nb R + b) : (L : Rat) * p2 a < (R : Rat) * p2 b := by
  obtain ⟨m, hm⟩ : ∃ m, m = min a b := ⟨_, rfl⟩
  rw [sr_lt (m := m) (by omega) (by omega)]
  have h1 := nb_lt L
  obtain ⟨h2, h3⟩ := nb_le (v := R) (by omega)
  have h4 : L * 2 ^ (a - m).toNat < 2 ^ nb L * 2 ^ (a - m).toNat := Nat.mul_lt_mul_of_pos_right h1 (Nat.two_pow_pos _)
  have h5 : 2 ^ (nb R - 1) * 2 ^ (b - m).toNat ≤ R * 2 ^ (b - m).toNat := Nat.mul_le_mul_right _ h2
  rw [← Nat.pow_add] at h4 h5
  have h6 : 2 ^ (nb L + (a - m).toNat) ≤ 2 ^ (nb R - 1 + (b - m).toNat) := Nat.pow_le_pow_right (by decide) (by omega)
  omega
theorem nb_mono_lt {v k : Nat} (h : v < 2 ^ k) : nb v ≤ k := by
  rcases Nat.eq_zero_or_pos v with q | q
  · subst q; exact Nat.zero_le k
  · obtain ⟨b, c⟩ := nb_le q
    have : nb v - 1 < k := (Nat.pow_lt_pow_iff_right (a := 2) (by decide)).mp (Nat.lt_of_le_of_lt b h)
    omega
set_option maxHeartbeats 4000000 in
theorem cM_X14_compareSizes (G : xG) (l : Launch) : xM G l yX14_compareSizes cX14_compareSizes 5 (some FieldType.int) r_X14_compareSizes C_X14_compareSizes := by
  refine xM_of (fun Q => b_X14_compareSizes_0 Q) RX14 false (s_X14_compareSizes_0 G l) (by decide) rfl (by decide) ?_
  rintro av ⟨h, S2⟩ Q ⟨M, a, b, s, b1, b2, x1, y1, x2, y2, e1, e2, rfl, da, db, hO, ⟨⟨l0, hl⟩, ⟨r0, hr⟩⟩, ha, hb, nx1, nx2, ny1, ny2, m1, m2, hQ⟩
  dsimp only at *
  refine ⟨Nat.le_of_ble_eq_true rfl, ?_⟩
  have e10240 : (65536 : Nat) ^ 639 = 2 ^ 10224 := by rw [show (65536 : Nat) = 2 ^ 16 from rfl, ← Nat.pow_mul]
  generalize hL : x1 * y2 = L at *
  generalize hR : x2 * y1 = R at *
  have hL0 : L ≠ 0 := by rw [← hL]; exact Nat.mul_ne_zero nx1 ny2
  have hR0 : R ≠ 0 := by rw [← hR]; exact Nat.mul_ne_zero nx2 ny1
  have be1 := ha.2.2.2
  have be2 := hb.2.2.2
  have B169 : ∀ (lv : List (Nat × Value)) (h' : xH) (L' R' : Nat), xlk lv 0 = some (.ref M) → xoff h' h (M + 1) (M + 5) → mV h' (M + 1) L' → mV h' (M + 3) R' → (if L' < R' then (-1 : Int32) else if L' = R' then 0 else 1) = cmpR ((L : Rat) * p2 e1) ((R : Rat) * p2 e2) → b_X14_compareSizes_169 Q lv [] (h', S2) := by
    intro lv h' L' R' l0 o hl hr hc
    have hO' := (o M (by omega)).trans hO
    obtain ⟨fs, ob⟩ := hl.obj
    simp only [x_c, x_iload, x_lload, x_aload, x_istore, x_lstore, x_astore, x_iinc, x_iadd, x_isub, x_imul, x_iand, x_ior, x_ixor, x_ladd, x_lsub, x_lmul, x_land, x_lor, x_lxor, x_idiv, x_irem, x_ldiv, x_lrem, x_ineg, x_lneg, x_ishl, x_ishr, x_iushr, x_lshl, x_lshr, x_lushr, x_i2l, x_l2i, x_i2b, x_i2c, x_lcmp, x_if_eq, x_if_ne, x_if_lt, x_if_ge, x_if_gt, x_if_le, x_icmp_eq, x_icmp_ne, x_icmp_lt, x_icmp_ge, x_icmp_gt, x_icmp_le, x_dup, x_pop, x_dup_x1, x_dup2, x_iret, x_zret, x_lret, x_aret, x_vret, x_call, x_callv, x_calli, x_oinit, x_mmax, x_mmin, x_mabs, x_mmaxL, x_mminL, x_mabsL, lg_cmp_ge, lg_cmp_le, lg_cmp_gt, lg_cmp_lt, lg_cmp_eq, xlk, xs1, xs2, lv_args, Value.category, List.filter_cons, List.filter_nil, Nat.reduceAdd, Nat.reduceBEq, Nat.reduceEqDiff, Nat.reduceSub, Nat.sub_zero, beq_self_eq_true, Bool.not_true, Bool.not_false, Bool.and_true, Bool.and_false, Bool.true_and, Bool.false_and, reduceIte, reduceCtorEq, Bool.false_eq_true, Nat.one_ne_zero, Nat.zero_ne_one, Nat.zero_add, Option.toList_some, Option.toList_none, List.nil_append, List.cons_append, List.take_succ_cons, List.take_zero, List.take_nil, List.drop_succ_cons, List.drop_zero, List.length_cons, List.length_nil, List.reverse_cons, List.reverse_nil, List.head?_cons, List.map_cons, List.map_nil, List.sum_cons, List.sum_nil, true_and, and_true, List.getElem?_cons_zero, List.getElem?_cons_succ, Prod.eta, x_get, x_put, x_iald, x_iast, x_bald, x_bast, x_lald, x_last, x_alen, xup_s, xup_a1, xup_1a, xup_uu, nr_i, nr_l, nr_o, nr_a, ft_i, ft_l, ft_o, ft_a, Nat.reduceLT, i_cl0, i_cl1, i_n1, i_m1, List.set_cons_zero, List.set_cons_succ, Nat.reduceLeDiff, Nat.le_refl, Nat.zero_le, Nat.add_zero, b_X14_compareSizes_169, l0, hO', moF]
    refine ⟨⟨_, _, rfl, ob⟩, M + 1, M + 3, L', R', rfl, hl, hr, ?_⟩
    simp only [x_c, x_iload, x_lload, x_aload, x_istore, x_lstore, x_astore, x_iinc, x_iadd, x_isub, x_imul, x_iand, x_ior, x_ixor, x_ladd, x_lsub, x_lmul, x_land, x_lor, x_lxor, x_idiv, x_irem, x_ldiv, x_lrem, x_ineg, x_lneg, x_ishl, x_ishr, x_iushr, x_lshl, x_lshr, x_lushr, x_i2l, x_l2i, x_i2b, x_i2c, x_lcmp, x_if_eq, x_if_ne, x_if_lt, x_if_ge, x_if_gt, x_if_le, x_icmp_eq, x_icmp_ne, x_icmp_lt, x_icmp_ge, x_icmp_gt, x_icmp_le, x_dup, x_pop, x_dup_x1, x_dup2, x_iret, x_zret, x_lret, x_aret, x_vret, x_call, x_callv, x_calli, x_oinit, x_mmax, x_mmin, x_mabs, x_mmaxL, x_mminL, x_mabsL, lg_cmp_ge, lg_cmp_le, lg_cmp_gt, lg_cmp_lt, lg_cmp_eq, xlk, xs1, xs2, lv_args, Value.category, List.filter_cons, List.filter_nil, Nat.reduceAdd, Nat.reduceBEq, Nat.reduceEqDiff, Nat.reduceSub, Nat.sub_zero, beq_self_eq_true, Bool.not_true, Bool.not_false, Bool.and_true, Bool.and_false, Bool.true_and, Bool.false_and, reduceIte, reduceCtorEq, Bool.false_eq_true, Nat.one_ne_zero, Nat.zero_ne_one, Nat.zero_add, Option.toList_some, Option.toList_none, List.nil_append, List.cons_append, List.take_succ_cons, List.take_zero, List.take_nil, List.drop_succ_cons, List.drop_zero, List.length_cons, List.length_nil, List.reverse_cons, List.reverse_nil, List.head?_cons, List.map_cons, List.map_nil, List.sum_cons, List.sum_nil, true_and, and_true, List.getElem?_cons_zero, List.getElem?_cons_succ, Prod.eta, x_get, x_put, x_iald, x_iast, x_bald, x_bast, x_lald, x_last, x_alen, xup_s, xup_a1, xup_1a, xup_uu, nr_i, nr_l, nr_o, nr_a, ft_i, ft_l, ft_o, ft_a, Nat.reduceLT, i_cl0, i_cl1, i_n1, i_m1, List.set_cons_zero, List.set_cons_succ, Nat.reduceLeDiff, Nat.le_refl, Nat.zero_le, Nat.add_zero, hc]
    exact hQ h' o ⟨⟨_, hl⟩, ⟨_, hr⟩⟩
  have B78 : ∀ (h' : xH), xoff h' h (M + 1) (M + 5) → mV h' (M + 1) L → mV h' (M + 3) R → b_X14_compareSizes_78 Q [(0, .ref M), (1, .ref a), (2, .ref b)] [] (h', S2) := by
    intro h' o hl hr
    have hO' := (o M (by omega)).trans hO
    have ha' := ha.off o da
    have hb' := hb.off o db
    obtain ⟨fs, ob⟩ := hl.obj
    obtain ⟨fs2, ob2⟩ := hr.obj
    have nL : nb L ≤ 10224 := nb_mono_lt (by rw [← e10240]; exact m1)
    have nR : nb R ≤ 10224 := nb_mono_lt (by rw [← e10240]; exact m2)
    simp only [x_c, x_iload, x_lload, x_aload, x_istore, x_lstore, x_astore, x_iinc, x_iadd, x_isub, x_imul, x_iand, x_ior, x_ixor, x_ladd, x_lsub, x_lmul, x_land, x_lor, x_lxor, x_idiv, x_irem, x_ldiv, x_lrem, x_ineg, x_lneg, x_ishl, x_ishr, x_iushr, x_lshl, x_lshr, x_lushr, x_i2l, x_l2i, x_i2b, x_i2c, x_lcmp, x_if_eq, x_if_ne, x_if_lt, x_if_ge, x_if_gt, x_if_le, x_icmp_eq, x_icmp_ne, x_icmp_lt, x_icmp_ge, x_icmp_gt, x_icmp_le, x_dup, x_pop, x_dup_x1, x_dup2, x_iret, x_zret, x_lret, x_aret, x_vret, x_call, x_callv, x_calli, x_oinit, x_mmax, x_mmin, x_mabs, x_mmaxL, x_mminL, x_mabsL, lg_cmp_ge, lg_cmp_le, lg_cmp_gt, lg_cmp_lt, lg_cmp_eq, xlk, xs1, xs2, lv_args, Value.category, List.filter_cons, List.filter_nil, Nat.reduceAdd, Nat.reduceBEq, Nat.reduceEqDiff, Nat.reduceSub, Nat.sub_zero, beq_self_eq_true, Bool.not_true, Bool.not_false, Bool.and_true, Bool.and_false, Bool.true_and, Bool.false_and, reduceIte, reduceCtorEq, Bool.false_eq_true, Nat.one_ne_zero, Nat.zero_ne_one, Nat.zero_add, Option.toList_some, Option.toList_none, List.nil_append, List.cons_append, List.take_succ_cons, List.take_zero, List.take_nil, List.drop_succ_cons, List.drop_zero, List.length_cons, List.length_nil, List.reverse_cons, List.reverse_nil, List.head?_cons, List.map_cons, List.map_nil, List.sum_cons, List.sum_nil, true_and, and_true, List.getElem?_cons_zero, List.getElem?_cons_succ, Prod.eta, x_get, x_put, x_iald, x_iast, x_bald, x_bast, x_lald, x_last, x_alen, xup_s, xup_a1, xup_1a, xup_uu, nr_i, nr_l, nr_o, nr_a, ft_i, ft_l, ft_o, ft_a, Nat.reduceLT, i_cl0, i_cl1, i_n1, i_m1, List.set_cons_zero, List.set_cons_succ, Nat.reduceLeDiff, Nat.le_refl, Nat.zero_le, Nat.add_zero, b_X14_compareSizes_78, hO', moF]
    refine ⟨⟨_, _, rfl, ob⟩, M + 1, L, rfl, hl, ?_⟩
    have g1 : nI (nb L) + iZ e1 = iZ ((nb L : Int) + e1) := by rw [← iZ_nat, iZ_add]
    have g2 : nI (nb R) + iZ e2 = iZ ((nb R : Int) + e2) := by rw [← iZ_nat, iZ_add]
    have t1 := iZ_toInt (z := (nb L : Int) + e1) (by omega) (by omega)
    have t2 := iZ_toInt (z := (nb R : Int) + e2) (by omega) (by omega)
    have ceq : iZ ((nb L : Int) + e1) = iZ ((nb R : Int) + e2) ↔ (nb L : Int) + e1 = nb R + e2 := by rw [← Int32.toInt_inj, t1, t2]
    have cge : iZ ((nb R : Int) + e2) ≤ iZ ((nb L : Int) + e1) ↔ (nb R : Int) + e2 ≤ nb L + e1 := by rw [i_le, t1, t2]
    have cle : iZ e1 ≤ iZ e2 ↔ e1 ≤ e2 := by rw [i_le, iZ_toInt (by omega) (by omega), iZ_toInt (by omega) (by omega)]
    simp only [x_c, x_iload, x_lload, x_aload, x_istore, x_lstore, x_astore, x_iinc, x_iadd, x_isub, x_imul, x_iand, x_ior, x_ixor, x_ladd, x_lsub, x_lmul, x_land, x_lor, x_lxor, x_idiv, x_irem, x_ldiv, x_lrem, x_ineg, x_lneg, x_ishl, x_ishr, x_iushr, x_lshl, x_lshr, x_lushr, x_i2l, x_l2i, x_i2b, x_i2c, x_lcmp, x_if_eq, x_if_ne, x_if_lt, x_if_ge, x_if_gt, x_if_le, x_icmp_eq, x_icmp_ne, x_icmp_lt, x_icmp_ge, x_icmp_gt, x_icmp_le, x_dup, x_pop, x_dup_x1, x_dup2, x_iret, x_zret, x_lret, x_aret, x_vret, x_call, x_callv, x_calli, x_oinit, x_mmax, x_mmin, x_mabs, x_mmaxL, x_mminL, x_mabsL, lg_cmp_ge, lg_cmp_le, lg_cmp_gt, lg_cmp_lt, lg_cmp_eq, xlk, xs1, xs2, lv_args, Value.category, List.filter_cons, List.filter_nil, Nat.reduceAdd, Nat.reduceBEq, Nat.reduceEqDiff, Nat.reduceSub, Nat.sub_zero, beq_self_eq_true, Bool.not_true, Bool.not_false, Bool.and_true, Bool.and_false, Bool.true_and, Bool.false_and, reduceIte, reduceCtorEq, Bool.false_eq_true, Nat.one_ne_zero, Nat.zero_ne_one, Nat.zero_add, Option.toList_some, Option.toList_none, List.nil_append, List.cons_append, List.take_succ_cons, List.take_zero, List.take_nil, List.drop_succ_cons, List.drop_zero, List.length_cons, List.length_nil, List.reverse_cons, List.reverse_nil, List.head?_cons, List.map_cons, List.map_nil, List.sum_cons, List.sum_nil, true_and, and_true, List.getElem?_cons_zero, List.getElem?_cons_succ, Prod.eta, x_get, x_put, x_iald, x_iast, x_bald, x_bast, x_lald, x_last, x_alen, xup_s, xup_a1, xup_1a, xup_uu, nr_i, nr_l, nr_o, nr_a, ft_i, ft_l, ft_o, ft_a, Nat.reduceLT, i_cl0, i_cl1, i_n1, i_m1, List.set_cons_zero, List.set_cons_succ, Nat.reduceLeDiff, Nat.le_refl, Nat.zero_le, Nat.add_zero, ha'.1, hO', moF, g1]
    refine ⟨⟨_, _, rfl, ob2⟩, M + 3, R, rfl, hr, ?_⟩
    simp only [x_c, x_iload, x_lload, x_aload, x_istore, x_lstore, x_astore, x_iinc, x_iadd, x_isub, x_imul, x_iand, x_ior, x_ixor, x_ladd, x_lsub, x_lmul, x_land, x_lor, x_lxor, x_idiv, x_irem, x_ldiv, x_lrem, x_ineg, x_lneg, x_ishl, x_ishr, x_iushr, x_lshl, x_lshr, x_lushr, x_i2l, x_l2i, x_i2b, x_i2c, x_lcmp, x_if_eq, x_if_ne, x_if_lt, x_if_ge, x_if_gt, x_if_le, x_icmp_eq, x_icmp_ne, x_icmp_lt, x_icmp_ge, x_icmp_gt, x_icmp_le, x_dup, x_pop, x_dup_x1, x_dup2, x_iret, x_zret, x_lret, x_aret, x_vret, x_call, x_callv, x_calli, x_oinit, x_mmax, x_mmin, x_mabs, x_mmaxL, x_mminL, x_mabsL, lg_cmp_ge, lg_cmp_le, lg_cmp_gt, lg_cmp_lt, lg_cmp_eq, xlk, xs1, xs2, lv_args, Value.category, List.filter_cons, List.filter_nil, Nat.reduceAdd, Nat.reduceBEq, Nat.reduceEqDiff, Nat.reduceSub, Nat.sub_zero, beq_self_eq_true, Bool.not_true, Bool.not_false, Bool.and_true, Bool.and_false, Bool.true_and, Bool.false_and, reduceIte, reduceCtorEq, Bool.false_eq_true, Nat.one_ne_zero, Nat.zero_ne_one, Nat.zero_add, Option.toList_some, Option.toList_none, List.nil_append, List.cons_append, List.take_succ_cons, List.take_zero, List.take_nil, List.drop_succ_cons, List.drop_zero, List.length_cons, List.length_nil, List.reverse_cons, List.reverse_nil, List.head?_cons, List.map_cons, List.map_nil, List.sum_cons, List.sum_nil, true_and, and_true, List.getElem?_cons_zero, List.getElem?_cons_succ, Prod.eta, x_get, x_put, x_iald, x_iast, x_bald, x_bast, x_lald, x_last, x_alen, xup_s, xup_a1, xup_1a, xup_uu, nr_i, nr_l, nr_o, nr_a, ft_i, ft_l, ft_o, ft_a, Nat.reduceLT, i_cl0, i_cl1, i_n1, i_m1, List.set_cons_zero, List.set_cons_succ, Nat.reduceLeDiff, Nat.le_refl, Nat.zero_le, Nat.add_zero, ha'.1, hb'.1, hO', moF, g2, ceq, cge, cle, b_X14_compareSizes_122]
    refine ⟨fun z => ⟨fun w => ?_, fun w => ?_⟩, fun z => ⟨fun w => ?_, fun w => ?_⟩⟩
    · have k2 : iZ e2 - iZ e1 = nI (e2 - e1).toNat := by rw [iZ_sub, ← iZ_nat, Int.toNat_of_nonneg (by omega)]
      rw [k2]
      have hsz : R * 2 ^ (e2 - e1).toNat < 65536 ^ 640 := by
        have h1 := nb_lt R
        have h4 : R * 2 ^ (e2 - e1).toNat < 2 ^ nb R * 2 ^ (e2 - e1).toNat := Nat.mul_lt_mul_of_pos_right h1 (Nat.two_pow_pos _)
        rw [← Nat.pow_add] at h4
        have h6 : 2 ^ (nb R + (e2 - e1).toNat) ≤ 2 ^ 10240 := Nat.pow_le_pow_right (by decide) (by omega)
        rw [show (65536 : Nat) ^ 640 = 2 ^ 10240 by rw [show (65536 : Nat) = 2 ^ 16 from rfl, ← Nat.pow_mul]]
        omega
      refine ⟨⟨_, _, rfl, ob2⟩, M + 3, R, (e2 - e1).toNat, rfl, by omega, hr, hsz, fun h2 oB rB => ?_⟩
      refine B169 _ h2 L (R * 2 ^ (e2 - e1).toNat) rfl (xoff_tr (xoff_wd oB (by omega) (by omega)) o) (hl.off oB (by omega)) rB ?_
      have := cmp_nat (L := L) (R := R) (m := e1) (a := e1) (b := e2) (Int.le_refl _) w
      rw [Int.sub_self, Int.toNat_zero, Nat.pow_zero, Nat.mul_one] at this
      exact this
    · have k2 : iZ e1 - iZ e2 = nI (e1 - e2).toNat := by rw [iZ_sub, ← iZ_nat, Int.toNat_of_nonneg (by omega)]
      rw [k2]
      have hsz : L * 2 ^ (e1 - e2).toNat < 65536 ^ 640 := by
        have h1 := nb_lt L
        have h4 : L * 2 ^ (e1 - e2).toNat < 2 ^ nb L * 2 ^ (e1 - e2).toNat := Nat.mul_lt_mul_of_pos_right h1 (Nat.two_pow_pos _)
        rw [← Nat.pow_add] at h4
        have h6 : 2 ^ (nb L + (e1 - e2).toNat) ≤ 2 ^ 10240 := Nat.pow_le_pow_right (by decide) (by omega)
        rw [show (65536 : Nat) ^ 640 = 2 ^ 10240 by rw [show (65536 : Nat) = 2 ^ 16 from rfl, ← Nat.pow_mul]]
        omega
      refine ⟨⟨_, _, rfl, ob⟩, M + 1, L, (e1 - e2).toNat, rfl, by omega, hl, hsz, fun h2 oB rB => ?_⟩
      refine B169 _ h2 (L * 2 ^ (e1 - e2).toNat) R rfl (xoff_tr (xoff_wd oB (by omega) (by omega)) o) rB (hr.off oB (by omega)) ?_
      have := cmp_nat (L := L) (R := R) (m := e2) (a := e1) (b := e2) (by omega) (Int.le_refl _)
      rw [Int.sub_self, Int.toNat_zero, Nat.pow_zero, Nat.mul_one] at this
      exact this
    · have := cmpR_gt (bits_lt hR0 hL0 (show (nb R : Int) + e2 < nb L + e1 by omega))
      rw [← this]
      exact hQ h' o ⟨⟨_, hl⟩, ⟨_, hr⟩⟩
    · have := cmpR_lt (bits_lt hL0 hR0 (show (nb L : Int) + e1 < nb R + e2 by omega))
      rw [← this]
      exact hQ h' o ⟨⟨_, hl⟩, ⟨_, hr⟩⟩
  have B39 : ∀ (h' : xH) (r' : Nat), xoff h' h (M + 1) (M + 5) → mV h' (M + 1) L → mV h' (M + 3) r' → b_X14_compareSizes_39 Q [(0, .ref M), (1, .ref a), (2, .ref b)] [] (h', S2) := by
    intro h' r' o hl hr
    have hO' := (o M (by omega)).trans hO
    have ha' := ha.off o da
    have hb' := hb.off o db
    obtain ⟨fs, ob⟩ := ha'.2.2.1.obj
    obtain ⟨fs2, ob2⟩ := hr.obj
    simp only [x_c, x_iload, x_lload, x_aload, x_istore, x_lstore, x_astore, x_iinc, x_iadd, x_isub, x_imul, x_iand, x_ior, x_ixor, x_ladd, x_lsub, x_lmul, x_land, x_lor, x_lxor, x_idiv, x_irem, x_ldiv, x_lrem, x_ineg, x_lneg, x_ishl, x_ishr, x_iushr, x_lshl, x_lshr, x_lushr, x_i2l, x_l2i, x_i2b, x_i2c, x_lcmp, x_if_eq, x_if_ne, x_if_lt, x_if_ge, x_if_gt, x_if_le, x_icmp_eq, x_icmp_ne, x_icmp_lt, x_icmp_ge, x_icmp_gt, x_icmp_le, x_dup, x_pop, x_dup_x1, x_dup2, x_iret, x_zret, x_lret, x_aret, x_vret, x_call, x_callv, x_calli, x_oinit, x_mmax, x_mmin, x_mabs, x_mmaxL, x_mminL, x_mabsL, lg_cmp_ge, lg_cmp_le, lg_cmp_gt, lg_cmp_lt, lg_cmp_eq, xlk, xs1, xs2, lv_args, Value.category, List.filter_cons, List.filter_nil, Nat.reduceAdd, Nat.reduceBEq, Nat.reduceEqDiff, Nat.reduceSub, Nat.sub_zero, beq_self_eq_true, Bool.not_true, Bool.not_false, Bool.and_true, Bool.and_false, Bool.true_and, Bool.false_and, reduceIte, reduceCtorEq, Bool.false_eq_true, Nat.one_ne_zero, Nat.zero_ne_one, Nat.zero_add, Option.toList_some, Option.toList_none, List.nil_append, List.cons_append, List.take_succ_cons, List.take_zero, List.take_nil, List.drop_succ_cons, List.drop_zero, List.length_cons, List.length_nil, List.reverse_cons, List.reverse_nil, List.head?_cons, List.map_cons, List.map_nil, List.sum_cons, List.sum_nil, true_and, and_true, List.getElem?_cons_zero, List.getElem?_cons_succ, Prod.eta, x_get, x_put, x_iald, x_iast, x_bald, x_bast, x_lald, x_last, x_alen, xup_s, xup_a1, xup_1a, xup_uu, nr_i, nr_l, nr_o, nr_a, ft_i, ft_l, ft_o, ft_a, Nat.reduceLT, i_cl0, i_cl1, i_n1, i_m1, List.set_cons_zero, List.set_cons_succ, Nat.reduceLeDiff, Nat.le_refl, Nat.zero_le, Nat.add_zero, b_X14_compareSizes_39, ha'.1]
    refine ⟨⟨_, _, rfl, ob⟩, a + 3, y1, rfl, ha'.2.2.1, ?_⟩
    simp only [x_c, x_iload, x_lload, x_aload, x_istore, x_lstore, x_astore, x_iinc, x_iadd, x_isub, x_imul, x_iand, x_ior, x_ixor, x_ladd, x_lsub, x_lmul, x_land, x_lor, x_lxor, x_idiv, x_irem, x_ldiv, x_lrem, x_ineg, x_lneg, x_ishl, x_ishr, x_iushr, x_lshl, x_lshr, x_lushr, x_i2l, x_l2i, x_i2b, x_i2c, x_lcmp, x_if_eq, x_if_ne, x_if_lt, x_if_ge, x_if_gt, x_if_le, x_icmp_eq, x_icmp_ne, x_icmp_lt, x_icmp_ge, x_icmp_gt, x_icmp_le, x_dup, x_pop, x_dup_x1, x_dup2, x_iret, x_zret, x_lret, x_aret, x_vret, x_call, x_callv, x_calli, x_oinit, x_mmax, x_mmin, x_mabs, x_mmaxL, x_mminL, x_mabsL, lg_cmp_ge, lg_cmp_le, lg_cmp_gt, lg_cmp_lt, lg_cmp_eq, xlk, xs1, xs2, lv_args, Value.category, List.filter_cons, List.filter_nil, Nat.reduceAdd, Nat.reduceBEq, Nat.reduceEqDiff, Nat.reduceSub, Nat.sub_zero, beq_self_eq_true, Bool.not_true, Bool.not_false, Bool.and_true, Bool.and_false, Bool.true_and, Bool.false_and, reduceIte, reduceCtorEq, Bool.false_eq_true, Nat.one_ne_zero, Nat.zero_ne_one, Nat.zero_add, Option.toList_some, Option.toList_none, List.nil_append, List.cons_append, List.take_succ_cons, List.take_zero, List.take_nil, List.drop_succ_cons, List.drop_zero, List.length_cons, List.length_nil, List.reverse_cons, List.reverse_nil, List.head?_cons, List.map_cons, List.map_nil, List.sum_cons, List.sum_nil, true_and, and_true, List.getElem?_cons_zero, List.getElem?_cons_succ, Prod.eta, x_get, x_put, x_iald, x_iast, x_bald, x_bast, x_lald, x_last, x_alen, xup_s, xup_a1, xup_1a, xup_uu, nr_i, nr_l, nr_o, nr_a, ft_i, ft_l, ft_o, ft_a, Nat.reduceLT, i_cl0, i_cl1, i_n1, i_m1, List.set_cons_zero, List.set_cons_succ, Nat.reduceLeDiff, Nat.le_refl, Nat.zero_le, Nat.add_zero, ha'.1, hb'.1, hO', moF]
    refine ⟨fun z => ⟨⟨_, _, rfl, ob2⟩, M + 3, b + 1, a + 3, x2, y1, rfl, by omega, by omega, hr.R, hb'.2.1, ha'.2.2.1, by rw [hR]; exact m2, fun h2 oB rB => B78 h2 (xoff_tr (xoff_wd oB (by omega) (by omega)) o) (hl.off oB (by omega)) (by rw [← hR]; exact rB)⟩, fun z => ⟨⟨_, _, rfl, ob2⟩, M + 3, b + 1, x2, rfl, by omega, hr.R, hb'.2.1, fun h2 oB rB => B78 h2 (xoff_tr (xoff_wd oB (by omega) (by omega)) o) (hl.off oB (by omega)) ?_⟩⟩
    have : y1 = 1 := by
      rcases Decidable.em (y1 = 1) with e | e
      · exact e
      · rw [if_neg e] at z; exact absurd rfl z
    rw [← hR, this, Nat.mul_one]
    exact rB
  obtain ⟨fs, ob⟩ := hb.2.2.1.obj
  obtain ⟨fs2, ob2⟩ := hl.obj
  simp only [x_c, x_iload, x_lload, x_aload, x_istore, x_lstore, x_astore, x_iinc, x_iadd, x_isub, x_imul, x_iand, x_ior, x_ixor, x_ladd, x_lsub, x_lmul, x_land, x_lor, x_lxor, x_idiv, x_irem, x_ldiv, x_lrem, x_ineg, x_lneg, x_ishl, x_ishr, x_iushr, x_lshl, x_lshr, x_lushr, x_i2l, x_l2i, x_i2b, x_i2c, x_lcmp, x_if_eq, x_if_ne, x_if_lt, x_if_ge, x_if_gt, x_if_le, x_icmp_eq, x_icmp_ne, x_icmp_lt, x_icmp_ge, x_icmp_gt, x_icmp_le, x_dup, x_pop, x_dup_x1, x_dup2, x_iret, x_zret, x_lret, x_aret, x_vret, x_call, x_callv, x_calli, x_oinit, x_mmax, x_mmin, x_mabs, x_mmaxL, x_mminL, x_mabsL, lg_cmp_ge, lg_cmp_le, lg_cmp_gt, lg_cmp_lt, lg_cmp_eq, xlk, xs1, xs2, lv_args, Value.category, List.filter_cons, List.filter_nil, Nat.reduceAdd, Nat.reduceBEq, Nat.reduceEqDiff, Nat.reduceSub, Nat.sub_zero, beq_self_eq_true, Bool.not_true, Bool.not_false, Bool.and_true, Bool.and_false, Bool.true_and, Bool.false_and, reduceIte, reduceCtorEq, Bool.false_eq_true, Nat.one_ne_zero, Nat.zero_ne_one, Nat.zero_add, Option.toList_some, Option.toList_none, List.nil_append, List.cons_append, List.take_succ_cons, List.take_zero, List.take_nil, List.drop_succ_cons, List.drop_zero, List.length_cons, List.length_nil, List.reverse_cons, List.reverse_nil, List.head?_cons, List.map_cons, List.map_nil, List.sum_cons, List.sum_nil, true_and, and_true, List.getElem?_cons_zero, List.getElem?_cons_succ, Prod.eta, x_get, x_put, x_iald, x_iast, x_bald, x_bast, x_lald, x_last, x_alen, xup_s, xup_a1, xup_1a, xup_uu, nr_i, nr_l, nr_o, nr_a, ft_i, ft_l, ft_o, ft_a, Nat.reduceLT, i_cl0, i_cl1, i_n1, i_m1, List.set_cons_zero, List.set_cons_succ, Nat.reduceLeDiff, Nat.le_refl, Nat.zero_le, Nat.add_zero, b_X14_compareSizes_0, hb.1]
  refine ⟨⟨_, _, rfl, ob⟩, b + 3, y2, rfl, hb.2.2.1, ?_⟩
  have hO1 : h M = some (.inr (13, moF M s)) := hO
  simp only [x_c, x_iload, x_lload, x_aload, x_istore, x_lstore, x_astore, x_iinc, x_iadd, x_isub, x_imul, x_iand, x_ior, x_ixor, x_ladd, x_lsub, x_lmul, x_land, x_lor, x_lxor, x_idiv, x_irem, x_ldiv, x_lrem, x_ineg, x_lneg, x_ishl, x_ishr, x_iushr, x_lshl, x_lshr, x_lushr, x_i2l, x_l2i, x_i2b, x_i2c, x_lcmp, x_if_eq, x_if_ne, x_if_lt, x_if_ge, x_if_gt, x_if_le, x_icmp_eq, x_icmp_ne, x_icmp_lt, x_icmp_ge, x_icmp_gt, x_icmp_le, x_dup, x_pop, x_dup_x1, x_dup2, x_iret, x_zret, x_lret, x_aret, x_vret, x_call, x_callv, x_calli, x_oinit, x_mmax, x_mmin, x_mabs, x_mmaxL, x_mminL, x_mabsL, lg_cmp_ge, lg_cmp_le, lg_cmp_gt, lg_cmp_lt, lg_cmp_eq, xlk, xs1, xs2, lv_args, Value.category, List.filter_cons, List.filter_nil, Nat.reduceAdd, Nat.reduceBEq, Nat.reduceEqDiff, Nat.reduceSub, Nat.sub_zero, beq_self_eq_true, Bool.not_true, Bool.not_false, Bool.and_true, Bool.and_false, Bool.true_and, Bool.false_and, reduceIte, reduceCtorEq, Bool.false_eq_true, Nat.one_ne_zero, Nat.zero_ne_one, Nat.zero_add, Option.toList_some, Option.toList_none, List.nil_append, List.cons_append, List.take_succ_cons, List.take_zero, List.take_nil, List.drop_succ_cons, List.drop_zero, List.length_cons, List.length_nil, List.reverse_cons, List.reverse_nil, List.head?_cons, List.map_cons, List.map_nil, List.sum_cons, List.sum_nil, true_and, and_true, List.getElem?_cons_zero, List.getElem?_cons_succ, Prod.eta, x_get, x_put, x_iald, x_iast, x_bald, x_bast, x_lald, x_last, x_alen, xup_s, xup_a1, xup_1a, xup_uu, nr_i, nr_l, nr_o, nr_a, ft_i, ft_l, ft_o, ft_a, Nat.reduceLT, i_cl0, i_cl1, i_n1, i_m1, List.set_cons_zero, List.set_cons_succ, Nat.reduceLeDiff, Nat.le_refl, Nat.zero_le, Nat.add_zero, ha.1, hb.1, hO1, moF]
  refine ⟨fun z => ⟨⟨_, _, rfl, ob2⟩, M + 1, a + 1, b + 3, x1, y2, rfl, by omega, by omega, hl.R, ha.2.1, hb.2.2.1, by rw [hL]; exact m1, fun h2 oB rB => B39 h2 r0 (xoff_wd oB (by omega) (by omega)) (by rw [← hL]; exact rB) (hr.off oB (by omega))⟩, fun z => ⟨⟨_, _, rfl, ob2⟩, M + 1, a + 1, x1, rfl, by omega, hl.R, ha.2.1, fun h2 oB rB => B39 h2 r0 (xoff_wd oB (by omega) (by omega)) ?_ (hr.off oB (by omega))⟩⟩
  have : y2 = 1 := by
    rcases Decidable.em (y2 = 1) with e | e
    · exact e
    · rw [if_neg e] at z; exact absurd rfl z
  rw [← hL, this, Nat.mul_one]
  exact rB
theorem dX14_orderOf_0 : decode cX14_orderOf 0 = .ok (.aload_n 1, 1) := by decide +kernel
theorem dX14_orderOf_1 : decode cX14_orderOf 1 = .ok (.invokevirtual 48, 3) := by decide +kernel
theorem dX14_orderOf_4 : decode cX14_orderOf 4 = .ok (.istore_n 3, 1) := by decide +kernel
theorem dX14_orderOf_5 : decode cX14_orderOf 5 = .ok (.aload_n 2, 1) := by decide +kernel
theorem dX14_orderOf_6 : decode cX14_orderOf 6 = .ok (.invokevirtual 48, 3) := by decide +kernel
theorem dX14_orderOf_9 : decode cX14_orderOf 9 = .ok (.istore 4, 2) := by decide +kernel
theorem dX14_orderOf_11 : decode cX14_orderOf 11 = .ok (.iload_n 3, 1) := by decide +kernel
theorem dX14_orderOf_12 : decode cX14_orderOf 12 = .ok (.iload 4, 2) := by decide +kernel
theorem dX14_orderOf_14 : decode cX14_orderOf 14 = .ok (.if_icmp .ne 7, 3) := by decide +kernel
theorem dX14_orderOf_17 : decode cX14_orderOf 17 = .ok (.iload_n 3, 1) := by decide +kernel
theorem dX14_orderOf_18 : decode cX14_orderOf 18 = .ok (.ifCond .ne 25, 3) := by decide +kernel
theorem dX14_orderOf_21 : decode cX14_orderOf 21 = .ok (.iload_n 3, 1) := by decide +kernel
theorem dX14_orderOf_22 : decode cX14_orderOf 22 = .ok (.iload 4, 2) := by decide +kernel
theorem dX14_orderOf_24 : decode cX14_orderOf 24 = .ok (.if_icmp .ge 7, 3) := by decide +kernel
theorem dX14_orderOf_27 : decode cX14_orderOf 27 = .ok (.iconst (-1), 1) := by decide +kernel
theorem dX14_orderOf_28 : decode cX14_orderOf 28 = .ok (.goto 14, 3) := by decide +kernel
theorem dX14_orderOf_31 : decode cX14_orderOf 31 = .ok (.iload_n 3, 1) := by decide +kernel
theorem dX14_orderOf_32 : decode cX14_orderOf 32 = .ok (.iload 4, 2) := by decide +kernel
theorem dX14_orderOf_34 : decode cX14_orderOf 34 = .ok (.if_icmp .le 7, 3) := by decide +kernel
theorem dX14_orderOf_37 : decode cX14_orderOf 37 = .ok (.iconst 1, 1) := by decide +kernel
theorem dX14_orderOf_38 : decode cX14_orderOf 38 = .ok (.goto 4, 3) := by decide +kernel
theorem dX14_orderOf_41 : decode cX14_orderOf 41 = .ok (.iconst 0, 1) := by decide +kernel
theorem dX14_orderOf_42 : decode cX14_orderOf 42 = .ok (.ireturn, 1) := by decide +kernel
theorem dX14_orderOf_43 : decode cX14_orderOf 43 = .ok (.iload_n 3, 1) := by decide +kernel
theorem dX14_orderOf_44 : decode cX14_orderOf 44 = .ok (.aload_n 0, 1) := by decide +kernel
theorem dX14_orderOf_45 : decode cX14_orderOf 45 = .ok (.aload_n 1, 1) := by decide +kernel
theorem dX14_orderOf_46 : decode cX14_orderOf 46 = .ok (.aload_n 2, 1) := by decide +kernel
theorem dX14_orderOf_47 : decode cX14_orderOf 47 = .ok (.invokevirtual 51, 3) := by decide +kernel
theorem dX14_orderOf_50 : decode cX14_orderOf 50 = .ok (.imul, 1) := by decide +kernel
theorem dX14_orderOf_51 : decode cX14_orderOf 51 = .ok (.ireturn, 1) := by decide +kernel
abbrev r_X14_orderOf : Room := { frames := 3, cells := 0, slots := 0, locals := 75 }
abbrev m_X14_orderOf : xMd := (cX14_orderOf, RX14, 5, (some FieldType.int), false, r_X14_orderOf)
def b_X14_orderOf_42 (Q : xQ) : xK := x_iret Q
def b_X14_orderOf_21 (Q : xQ) : xK := x_iload 3 <| x_iload 4 <| x_icmp_ge (x_iload 3 <| x_iload 4 <| x_icmp_le (x_c (.int 0) <| (b_X14_orderOf_42 Q)) <| x_c (.int 1) <| (b_X14_orderOf_42 Q)) <| x_c (.int (-1)) <| (b_X14_orderOf_42 Q)
def b_X14_orderOf_0 (Q : xQ) : xK := x_aload 1 <| x_callv 12 C_X13_sign 1 0 0 <| x_istore 3 <| x_aload 2 <| x_callv 12 C_X13_sign 1 0 0 <| x_istore 4 <| x_iload 3 <| x_iload 4 <| x_icmp_ne ((b_X14_orderOf_21 Q)) <| x_iload 3 <| x_if_ne (x_iload 3 <| x_aload 0 <| x_aload 1 <| x_aload 2 <| x_callv 13 C_X14_compareSizes 3 0 0 <| x_imul <| x_iret Q) <| (b_X14_orderOf_21 Q)
theorem s_X14_orderOf_42 (G : xG) (l : Launch) (Q : xQ) : xW G l m_X14_orderOf xX0 (xPm G Q r_X14_orderOf) 42 (b_X14_orderOf_42 Q) := xo_iret (pc := 42) rfl dX14_orderOf_42
theorem s_X14_orderOf_21 (G : xG) (l : Launch) (Q : xQ) : xW G l m_X14_orderOf xX0 (xPm G Q r_X14_orderOf) 21 (b_X14_orderOf_21 Q) := xo_iload_n (pc := 21) (i := 3) dX14_orderOf_21 rfl <| xo_iload (pc := 22) (i := 4) dX14_orderOf_22 <| xo_icmp_ge (pc := 24) (tgt := 31) dX14_orderOf_24 (by decide) (xo_iload_n (pc := 31) (i := 3) dX14_orderOf_31 rfl <| xo_iload (pc := 32) (i := 4) dX14_orderOf_32 <| xo_icmp_le (pc := 34) (tgt := 41) dX14_orderOf_34 (by decide) (xo_iconst (pc := 41) dX14_orderOf_41 (by decide) <| (s_X14_orderOf_42 G l Q)) <| xo_iconst (pc := 37) dX14_orderOf_37 (by decide) <| xo_goto (pc := 38) (tgt := 42) dX14_orderOf_38 (by decide) <| (s_X14_orderOf_42 G l Q)) <| xo_iconst (pc := 27) dX14_orderOf_27 (by decide) <| xo_goto (pc := 28) (tgt := 42) dX14_orderOf_28 (by decide) <| (s_X14_orderOf_42 G l Q)
theorem s_X14_orderOf_0 (G : xG) (l : Launch) (Q : xQ) : xW G l m_X14_orderOf xX0 (xPm G Q r_X14_orderOf) 0 (b_X14_orderOf_0 Q) := xo_aload_n (pc := 0) (i := 1) dX14_orderOf_0 rfl <| xo_callV (pc := 1) (np := 0) (ci := 12) rfl (cM_X13_sign G l) dX14_orderOf_1 kw1418 kw1415 kw1416 kw1417 kw15 (by decide +kernel) (by decide) <| xo_istore_n (pc := 4) (i := 3) dX14_orderOf_4 rfl (by decide) <| xo_aload_n (pc := 5) (i := 2) dX14_orderOf_5 rfl <| xo_callV (pc := 6) (np := 0) (ci := 12) rfl (cM_X13_sign G l) dX14_orderOf_6 kw1418 kw1415 kw1416 kw1417 kw15 (by decide +kernel) (by decide) <| xo_istore (pc := 9) (i := 4) dX14_orderOf_9 (by decide) <| xo_iload_n (pc := 11) (i := 3) dX14_orderOf_11 rfl <| xo_iload (pc := 12) (i := 4) dX14_orderOf_12 <| xo_icmp_ne (pc := 14) (tgt := 21) dX14_orderOf_14 (by decide) ((s_X14_orderOf_21 G l Q)) <| xo_iload_n (pc := 17) (i := 3) dX14_orderOf_17 rfl <| xo_if_ne (pc := 18) (tgt := 43) dX14_orderOf_18 (by decide) (xo_iload_n (pc := 43) (i := 3) dX14_orderOf_43 rfl <| xo_aload_n (pc := 44) (i := 0) dX14_orderOf_44 rfl <| xo_aload_n (pc := 45) (i := 1) dX14_orderOf_45 rfl <| xo_aload_n (pc := 46) (i := 2) dX14_orderOf_46 rfl <| xo_callV (pc := 47) (np := 2) (ci := 13) rfl (cM_X14_compareSizes G l) dX14_orderOf_47 kw1430 kw1427 kw1429 ks64 kw13 (by decide +kernel) (by decide) <| xo_imul (pc := 50) dX14_orderOf_50 <| xo_iret (pc := 51) rfl dX14_orderOf_51) <| (s_X14_orderOf_21 G l Q)

theorem si_pos {b : Bool} {p : Nat} (hp : p ≠ 0) : (b = false ∧ 0 < si b p) ∨ (b = true ∧ si b p < 0) := by
  cases b
  · left; exact ⟨rfl, by simp [si]; omega⟩
  · right; exact ⟨rfl, by simp [si]; omega⟩
theorem q_pos {q : Nat} (h : q ≠ 0) : (0 : Rat) < (q : Rat) := Rat.natCast_pos.mpr (by omega)
theorem nval_f (p q : Nat) (e : Int) : nval false p q e = (p : Rat) / (q : Rat) * p2 e := by
  unfold nval si
  simp [Rat.intCast_natCast]
theorem nval_t (p q : Nat) (e : Int) : nval true p q e = -((p : Rat) / (q : Rat) * p2 e) := by
  unfold nval si
  simp [Rat.div_def, Rat.neg_mul, Rat.intCast_natCast]
theorem nval_0 (b : Bool) (q : Nat) (e : Int) : nval b 0 q e = 0 := by
  cases b
  · rw [nval_f]; simp [Rat.div_def]
  · rw [nval_t]; simp [Rat.div_def]
theorem nval_pos {p q : Nat} (e : Int) (hp : p ≠ 0) (hq : q ≠ 0) : 0 < (p : Rat) / (q : Rat) * p2 e := by
  rw [Rat.div_def]
  exact Rat.mul_pos (Rat.mul_pos (q_pos hp) (Rat.inv_pos.mpr (q_pos hq))) (p2_pos e)
/-- quotients are ordered as the products across -/
theorem quo_cmp {p1 q1 p2' q2 : Nat} {e1 e2 : Int} (h1 : q1 ≠ 0) (h2 : q2 ≠ 0) : cmpR ((p1 : Rat) / (q1 : Rat) * p2 e1) ((p2' : Rat) / (q2 : Rat) * p2 e2) = cmpR (((p1 * q2 : Nat) : Rat) * p2 e1) (((p2' * q1 : Nat) : Rat) * p2 e2) := by
  have a := q_pos h1
  have b := q_pos h2
  have c := Rat.mul_pos a b
  have n1 : (q1 : Rat) ≠ 0 := fun e => by rw [e] at a; exact Rat.lt_irrefl a
  have n2 : (q2 : Rat) ≠ 0 := fun e => by rw [e] at b; exact Rat.lt_irrefl b
  have e1' : (p1 : Rat) / (q1 : Rat) * p2 e1 * ((q1 : Rat) * (q2 : Rat)) = ((p1 * q2 : Nat) : Rat) * p2 e1 := by
    rw [Rat.natCast_mul, Rat.div_def]
    have := Rat.inv_mul_cancel (q1 : Rat) n1
    grind
  have e2' : (p2' : Rat) / (q2 : Rat) * p2 e2 * ((q1 : Rat) * (q2 : Rat)) = ((p2' * q1 : Nat) : Rat) * p2 e2 := by
    rw [Rat.natCast_mul, Rat.div_def]
    have := Rat.inv_mul_cancel (q2 : Rat) n2
    grind
  rw [← e1', ← e2']
  generalize (p1 : Rat) / (q1 : Rat) * p2 e1 = x
  generalize (p2' : Rat) / (q2 : Rat) * p2 e2 = y
  generalize (q1 : Rat) * (q2 : Rat) = z at *
  unfold cmpR
  have : (x * z = y * z) = (x = y) := propext ⟨fun e => by
    rcases Decidable.em (x < y) with h | h
    · have := (Rat.mul_lt_mul_right c).mpr h; rw [e] at this; exact absurd this Rat.lt_irrefl
    · rcases Decidable.em (y < x) with h' | h'
      · have := (Rat.mul_lt_mul_right c).mpr h'; rw [e] at this; exact absurd this Rat.lt_irrefl
      · exact Rat.le_antisymm (Rat.not_lt.mp h') (Rat.not_lt.mp h), fun e => by rw [e]⟩
  simp only [Rat.mul_lt_mul_right c, this]
def C_X14_orderOf : xC := fun av S Q => ∃ (M a b : Nat) (s : Nat → Value) (b1 b2 : Bool) (x1 y1 x2 y2 : Nat) (e1 e2 : Int), av = [.ref M, .ref a, .ref b] ∧ (a + 5 ≤ M + 1 ∨ M + 5 ≤ a) ∧ (b + 5 ≤ M + 1 ∨ M + 5 ≤ b) ∧ moO S.1 M s ∧ moB S.1 M ∧ nuR S.1 a b1 x1 y1 e1 ∧ nuR S.1 b b2 x2 y2 e2 ∧ y1 ≠ 0 ∧ y2 ≠ 0 ∧ x1 * y2 < 65536 ^ 639 ∧ x2 * y1 < 65536 ^ 639 ∧ ∀ h', xoff h' S.1 (M + 1) (M + 5) → moB h' M → Q (some (.int (cmpR (nval b1 x1 y1 e1) (nval b2 x2 y2 e2)))) (h', S.2)
theorem cM_X14_orderOf (G : xG) (l : Launch) : xM G l yX14_orderOf cX14_orderOf 5 (some FieldType.int) r_X14_orderOf C_X14_orderOf := by
  refine xM_of (fun Q => b_X14_orderOf_0 Q) RX14 false (s_X14_orderOf_0 G l) (by decide) rfl (by decide) ?_
  rintro av ⟨h, S2⟩ Q ⟨M, a, b, s, b1, b2, x1, y1, x2, y2, e1, e2, rfl, da, db, hO, hB, ha, hb, ny1, ny2, m1, m2, hQ⟩
  dsimp only at *
  refine ⟨Nat.le_of_ble_eq_true rfl, ?_⟩
  simp only [x_c, x_iload, x_lload, x_aload, x_istore, x_lstore, x_astore, x_iinc, x_iadd, x_isub, x_imul, x_iand, x_ior, x_ixor, x_ladd, x_lsub, x_lmul, x_land, x_lor, x_lxor, x_idiv, x_irem, x_ldiv, x_lrem, x_ineg, x_lneg, x_ishl, x_ishr, x_iushr, x_lshl, x_lshr, x_lushr, x_i2l, x_l2i, x_i2b, x_i2c, x_lcmp, x_if_eq, x_if_ne, x_if_lt, x_if_ge, x_if_gt, x_if_le, x_icmp_eq, x_icmp_ne, x_icmp_lt, x_icmp_ge, x_icmp_gt, x_icmp_le, x_dup, x_pop, x_dup_x1, x_dup2, x_iret, x_zret, x_lret, x_aret, x_vret, x_call, x_callv, x_calli, x_oinit, x_mmax, x_mmin, x_mabs, x_mmaxL, x_mminL, x_mabsL, lg_cmp_ge, lg_cmp_le, lg_cmp_gt, lg_cmp_lt, lg_cmp_eq, xlk, xs1, xs2, lv_args, Value.category, List.filter_cons, List.filter_nil, Nat.reduceAdd, Nat.reduceBEq, Nat.reduceEqDiff, Nat.reduceSub, Nat.sub_zero, beq_self_eq_true, Bool.not_true, Bool.not_false, Bool.and_true, Bool.and_false, Bool.true_and, Bool.false_and, reduceIte, reduceCtorEq, Bool.false_eq_true, Nat.one_ne_zero, Nat.zero_ne_one, Nat.zero_add, Option.toList_some, Option.toList_none, List.nil_append, List.cons_append, List.take_succ_cons, List.take_zero, List.take_nil, List.drop_succ_cons, List.drop_zero, List.length_cons, List.length_nil, List.reverse_cons, List.reverse_nil, List.head?_cons, List.map_cons, List.map_nil, List.sum_cons, List.sum_nil, true_and, and_true, List.getElem?_cons_zero, List.getElem?_cons_succ, Prod.eta, x_get, x_put, x_iald, x_iast, x_bald, x_bast, x_lald, x_last, x_alen, xup_s, xup_a1, xup_1a, xup_uu, nr_i, nr_l, nr_o, nr_a, ft_i, ft_l, ft_o, ft_a, Nat.reduceLT, i_cl0, i_cl1, i_n1, i_m1, List.set_cons_zero, List.set_cons_succ, Nat.reduceLeDiff, Nat.le_refl, Nat.zero_le, Nat.add_zero, b_X14_orderOf_0, b_X14_orderOf_21, b_X14_orderOf_42]
  refine ⟨⟨_, _, rfl, ha.1⟩, a, b1, x1, y1, e1, rfl, ha, ?_⟩
  simp only [x_c, x_iload, x_lload, x_aload, x_istore, x_lstore, x_astore, x_iinc, x_iadd, x_isub, x_imul, x_iand, x_ior, x_ixor, x_ladd, x_lsub, x_lmul, x_land, x_lor, x_lxor, x_idiv, x_irem, x_ldiv, x_lrem, x_ineg, x_lneg, x_ishl, x_ishr, x_iushr, x_lshl, x_lshr, x_lushr, x_i2l, x_l2i, x_i2b, x_i2c, x_lcmp, x_if_eq, x_if_ne, x_if_lt, x_if_ge, x_if_gt, x_if_le, x_icmp_eq, x_icmp_ne, x_icmp_lt, x_icmp_ge, x_icmp_gt, x_icmp_le, x_dup, x_pop, x_dup_x1, x_dup2, x_iret, x_zret, x_lret, x_aret, x_vret, x_call, x_callv, x_calli, x_oinit, x_mmax, x_mmin, x_mabs, x_mmaxL, x_mminL, x_mabsL, lg_cmp_ge, lg_cmp_le, lg_cmp_gt, lg_cmp_lt, lg_cmp_eq, xlk, xs1, xs2, lv_args, Value.category, List.filter_cons, List.filter_nil, Nat.reduceAdd, Nat.reduceBEq, Nat.reduceEqDiff, Nat.reduceSub, Nat.sub_zero, beq_self_eq_true, Bool.not_true, Bool.not_false, Bool.and_true, Bool.and_false, Bool.true_and, Bool.false_and, reduceIte, reduceCtorEq, Bool.false_eq_true, Nat.one_ne_zero, Nat.zero_ne_one, Nat.zero_add, Option.toList_some, Option.toList_none, List.nil_append, List.cons_append, List.take_succ_cons, List.take_zero, List.take_nil, List.drop_succ_cons, List.drop_zero, List.length_cons, List.length_nil, List.reverse_cons, List.reverse_nil, List.head?_cons, List.map_cons, List.map_nil, List.sum_cons, List.sum_nil, true_and, and_true, List.getElem?_cons_zero, List.getElem?_cons_succ, Prod.eta, x_get, x_put, x_iald, x_iast, x_bald, x_bast, x_lald, x_last, x_alen, xup_s, xup_a1, xup_1a, xup_uu, nr_i, nr_l, nr_o, nr_a, ft_i, ft_l, ft_o, ft_a, Nat.reduceLT, i_cl0, i_cl1, i_n1, i_m1, List.set_cons_zero, List.set_cons_succ, Nat.reduceLeDiff, Nat.le_refl, Nat.zero_le, Nat.add_zero]
  refine ⟨⟨_, _, rfl, hb.1⟩, b, b2, x2, y2, e2, rfl, hb, ?_⟩
  simp only [x_c, x_iload, x_lload, x_aload, x_istore, x_lstore, x_astore, x_iinc, x_iadd, x_isub, x_imul, x_iand, x_ior, x_ixor, x_ladd, x_lsub, x_lmul, x_land, x_lor, x_lxor, x_idiv, x_irem, x_ldiv, x_lrem, x_ineg, x_lneg, x_ishl, x_ishr, x_iushr, x_lshl, x_lshr, x_lushr, x_i2l, x_l2i, x_i2b, x_i2c, x_lcmp, x_if_eq, x_if_ne, x_if_lt, x_if_ge, x_if_gt, x_if_le, x_icmp_eq, x_icmp_ne, x_icmp_lt, x_icmp_ge, x_icmp_gt, x_icmp_le, x_dup, x_pop, x_dup_x1, x_dup2, x_iret, x_zret, x_lret, x_aret, x_vret, x_call, x_callv, x_calli, x_oinit, x_mmax, x_mmin, x_mabs, x_mmaxL, x_mminL, x_mabsL, lg_cmp_ge, lg_cmp_le, lg_cmp_gt, lg_cmp_lt, lg_cmp_eq, xlk, xs1, xs2, lv_args, Value.category, List.filter_cons, List.filter_nil, Nat.reduceAdd, Nat.reduceBEq, Nat.reduceEqDiff, Nat.reduceSub, Nat.sub_zero, beq_self_eq_true, Bool.not_true, Bool.not_false, Bool.and_true, Bool.and_false, Bool.true_and, Bool.false_and, reduceIte, reduceCtorEq, Bool.false_eq_true, Nat.one_ne_zero, Nat.zero_ne_one, Nat.zero_add, Option.toList_some, Option.toList_none, List.nil_append, List.cons_append, List.take_succ_cons, List.take_zero, List.take_nil, List.drop_succ_cons, List.drop_zero, List.length_cons, List.length_nil, List.reverse_cons, List.reverse_nil, List.head?_cons, List.map_cons, List.map_nil, List.sum_cons, List.sum_nil, true_and, and_true, List.getElem?_cons_zero, List.getElem?_cons_succ, Prod.eta, x_get, x_put, x_iald, x_iast, x_bald, x_bast, x_lald, x_last, x_alen, xup_s, xup_a1, xup_1a, xup_uu, nr_i, nr_l, nr_o, nr_a, ft_i, ft_l, ft_o, ft_a, Nat.reduceLT, i_cl0, i_cl1, i_n1, i_m1, List.set_cons_zero, List.set_cons_succ, Nat.reduceLeDiff, Nat.le_refl, Nat.zero_le, Nat.add_zero]
  have sgn : ∀ (b : Bool) (x y : Nat) (e : Int), y ≠ 0 → ∃ t : Int32, t = (if x = 0 then (0 : Int32) else if b = true then -1 else 1) ∧ ((t = 0 ∧ nval b x y e = 0) ∨ (t = 1 ∧ 0 < nval b x y e ∧ b = false ∧ x ≠ 0) ∨ (t = -1 ∧ nval b x y e < 0 ∧ b = true ∧ x ≠ 0)) := by
    intro b x y e hy
    refine ⟨_, rfl, ?_⟩
    rcases Decidable.em (x = 0) with z | z
    · left; rw [if_pos z, z]; exact ⟨rfl, nval_0 b y e⟩
    · right
      have := nval_pos e z hy
      cases b
      · left; rw [if_neg z]; exact ⟨rfl, by rw [nval_f]; exact this, rfl, z⟩
      · right; rw [if_neg z]; exact ⟨rfl, by rw [nval_t]; grind, rfl, z⟩
  obtain ⟨t1, et1, H1⟩ := sgn b1 x1 y1 e1 ny1
  obtain ⟨t2, et2, H2⟩ := sgn b2 x2 y2 e2 ny2
  rw [← et1, ← et2]
  have here := hQ h xoff_rf hB
  have hO1 : h M = some (.inr (13, moF M s)) := hO
  rcases H1 with ⟨rfl, v1⟩ | ⟨rfl, v1, rfl, z1⟩ | ⟨rfl, v1, rfl, z1⟩ <;> rcases H2 with ⟨rfl, v2⟩ | ⟨rfl, v2, rfl, z2⟩ | ⟨rfl, v2, rfl, z2⟩
  · rw [cmpR_eq (v1.trans v2.symm)] at here
    exact ⟨fun c => absurd rfl c, fun _ => ⟨fun c => absurd rfl c, fun _ => ⟨fun _ => ⟨fun _ => here, fun c => absurd (by decide) c⟩, fun c => absurd (by decide) c⟩⟩⟩
  · rw [cmpR_lt (by rw [v1]; exact v2)] at here
    exact ⟨fun _ => ⟨fun c => absurd c (by decide), fun _ => here⟩, fun c => absurd c (by decide)⟩
  · rw [cmpR_gt (by rw [v1]; exact v2)] at here
    exact ⟨fun _ => ⟨fun _ => ⟨fun c => absurd c (by decide), fun _ => here⟩, fun c => absurd (by decide) c⟩, fun c => absurd c (by decide)⟩
  · rw [cmpR_gt (by rw [v2]; exact v1)] at here
    exact ⟨fun _ => ⟨fun _ => ⟨fun c => absurd c (by decide), fun _ => here⟩, fun c => absurd (by decide) c⟩, fun c => absurd c (by decide)⟩
  · refine ⟨fun c => absurd rfl c, fun _ => ⟨fun _ => ⟨⟨_, _, rfl, hO1⟩, M, a, b, s, false, false, x1, y1, x2, y2, e1, e2, rfl, da, db, hO, hB, ha, hb, z1, z2, ny1, ny2, m1, m2, fun h' o' B' => ?_⟩, fun c => absurd c (by decide)⟩⟩
    simp only [x_c, x_iload, x_lload, x_aload, x_istore, x_lstore, x_astore, x_iinc, x_iadd, x_isub, x_imul, x_iand, x_ior, x_ixor, x_ladd, x_lsub, x_lmul, x_land, x_lor, x_lxor, x_idiv, x_irem, x_ldiv, x_lrem, x_ineg, x_lneg, x_ishl, x_ishr, x_iushr, x_lshl, x_lshr, x_lushr, x_i2l, x_l2i, x_i2b, x_i2c, x_lcmp, x_if_eq, x_if_ne, x_if_lt, x_if_ge, x_if_gt, x_if_le, x_icmp_eq, x_icmp_ne, x_icmp_lt, x_icmp_ge, x_icmp_gt, x_icmp_le, x_dup, x_pop, x_dup_x1, x_dup2, x_iret, x_zret, x_lret, x_aret, x_vret, x_call, x_callv, x_calli, x_oinit, x_mmax, x_mmin, x_mabs, x_mmaxL, x_mminL, x_mabsL, lg_cmp_ge, lg_cmp_le, lg_cmp_gt, lg_cmp_lt, lg_cmp_eq, xlk, xs1, xs2, lv_args, Value.category, List.filter_cons, List.filter_nil, Nat.reduceAdd, Nat.reduceBEq, Nat.reduceEqDiff, Nat.reduceSub, Nat.sub_zero, beq_self_eq_true, Bool.not_true, Bool.not_false, Bool.and_true, Bool.and_false, Bool.true_and, Bool.false_and, reduceIte, reduceCtorEq, Bool.false_eq_true, Nat.one_ne_zero, Nat.zero_ne_one, Nat.zero_add, Option.toList_some, Option.toList_none, List.nil_append, List.cons_append, List.take_succ_cons, List.take_zero, List.take_nil, List.drop_succ_cons, List.drop_zero, List.length_cons, List.length_nil, List.reverse_cons, List.reverse_nil, List.head?_cons, List.map_cons, List.map_nil, List.sum_cons, List.sum_nil, true_and, and_true, List.getElem?_cons_zero, List.getElem?_cons_succ, Prod.eta, x_get, x_put, x_iald, x_iast, x_bald, x_bast, x_lald, x_last, x_alen, xup_s, xup_a1, xup_1a, xup_uu, nr_i, nr_l, nr_o, nr_a, ft_i, ft_l, ft_o, ft_a, Nat.reduceLT, i_cl0, i_cl1, i_n1, i_m1, List.set_cons_zero, List.set_cons_succ, Nat.reduceLeDiff, Nat.le_refl, Nat.zero_le, Nat.add_zero]
    have := hQ h' o' B'
    rw [nval_f, nval_f, quo_cmp ny1 ny2] at this
    rw [Int32.one_mul]
    exact this
  · rw [cmpR_gt (by grind)] at here
    exact ⟨fun _ => ⟨fun _ => ⟨fun c => absurd c (by decide), fun _ => here⟩, fun c => absurd (by decide) c⟩, fun c => absurd c (by decide)⟩
  · rw [cmpR_lt (by rw [v2]; exact v1)] at here
    exact ⟨fun _ => ⟨fun c => absurd c (by decide), fun _ => here⟩, fun c => absurd c (by decide)⟩
  · rw [cmpR_lt (by grind)] at here
    exact ⟨fun _ => ⟨fun c => absurd c (by decide), fun _ => here⟩, fun c => absurd c (by decide)⟩
  · refine ⟨fun c => absurd rfl c, fun _ => ⟨fun _ => ⟨⟨_, _, rfl, hO1⟩, M, a, b, s, true, true, x1, y1, x2, y2, e1, e2, rfl, da, db, hO, hB, ha, hb, z1, z2, ny1, ny2, m1, m2, fun h' o' B' => ?_⟩, fun c => absurd c (by decide)⟩⟩
    simp only [x_c, x_iload, x_lload, x_aload, x_istore, x_lstore, x_astore, x_iinc, x_iadd, x_isub, x_imul, x_iand, x_ior, x_ixor, x_ladd, x_lsub, x_lmul, x_land, x_lor, x_lxor, x_idiv, x_irem, x_ldiv, x_lrem, x_ineg, x_lneg, x_ishl, x_ishr, x_iushr, x_lshl, x_lshr, x_lushr, x_i2l, x_l2i, x_i2b, x_i2c, x_lcmp, x_if_eq, x_if_ne, x_if_lt, x_if_ge, x_if_gt, x_if_le, x_icmp_eq, x_icmp_ne, x_icmp_lt, x_icmp_ge, x_icmp_gt, x_icmp_le, x_dup, x_pop, x_dup_x1, x_dup2, x_iret, x_zret, x_lret, x_aret, x_vret, x_call, x_callv, x_calli, x_oinit, x_mmax, x_mmin, x_mabs, x_mmaxL, x_mminL, x_mabsL, lg_cmp_ge, lg_cmp_le, lg_cmp_gt, lg_cmp_lt, lg_cmp_eq, xlk, xs1, xs2, lv_args, Value.category, List.filter_cons, List.filter_nil, Nat.reduceAdd, Nat.reduceBEq, Nat.reduceEqDiff, Nat.reduceSub, Nat.sub_zero, beq_self_eq_true, Bool.not_true, Bool.not_false, Bool.and_true, Bool.and_false, Bool.true_and, Bool.false_and, reduceIte, reduceCtorEq, Bool.false_eq_true, Nat.one_ne_zero, Nat.zero_ne_one, Nat.zero_add, Option.toList_some, Option.toList_none, List.nil_append, List.cons_append, List.take_succ_cons, List.take_zero, List.take_nil, List.drop_succ_cons, List.drop_zero, List.length_cons, List.length_nil, List.reverse_cons, List.reverse_nil, List.head?_cons, List.map_cons, List.map_nil, List.sum_cons, List.sum_nil, true_and, and_true, List.getElem?_cons_zero, List.getElem?_cons_succ, Prod.eta, x_get, x_put, x_iald, x_iast, x_bald, x_bast, x_lald, x_last, x_alen, xup_s, xup_a1, xup_1a, xup_uu, nr_i, nr_l, nr_o, nr_a, ft_i, ft_l, ft_o, ft_a, Nat.reduceLT, i_cl0, i_cl1, i_n1, i_m1, List.set_cons_zero, List.set_cons_succ, Nat.reduceLeDiff, Nat.le_refl, Nat.zero_le, Nat.add_zero]
    have := hQ h' o' B'
    rw [nval_t, nval_t] at this
    rw [← quo_cmp ny1 ny2]
    generalize (x1 : Rat) / (y1 : Rat) * p2 e1 = X at *
    generalize (x2 : Rat) / (y2 : Rat) * p2 e2 = Y at *
    have e9 : (-1 : Int32) * cmpR X Y = cmpR (-X) (-Y) := by
      rcases Decidable.em (X < Y) with c | c
      · rw [cmpR_lt c, cmpR_gt (by grind)]; decide
      · rcases Decidable.em (Y < X) with c' | c'
        · rw [cmpR_gt c', cmpR_lt (by grind)]; decide
        · rw [cmpR_eq (show X = Y by grind), cmpR_eq (show -X = -Y by grind)]; decide
    rw [e9]
    exact this
