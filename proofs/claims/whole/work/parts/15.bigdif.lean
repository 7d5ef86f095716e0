theorem sar32_lo {m : Nat} (h : m < 2 ^ 62) : lN m >>> ((32 : Int32).toInt64 &&& 63) = lN (m / 2 ^ 32) := pf_shr (by decide) h
theorem sar32_hi {m : Nat} (h1 : 2 ^ 64 - 2 ^ 32 ≤ m) (h2 : m < 2 ^ 64) : lN m >>> ((32 : Int32).toInt64 &&& 63) = lN (2 ^ 64 - 1) := by
  apply Int64.toInt_inj.mp
  have e : (lN m >>> ((32 : Int32).toInt64 &&& 63)).toInt = (lN m).toInt >>> 32 := BitVec.toInt_sshiftRight ..
  rw [e, Int.shiftRight_eq_div_pow, lN_ti h2, lN_ti (by decide), if_neg (by omega), if_neg (by decide)]
  omega
theorem lN_subw {a b : Nat} (h : b ≤ 2 ^ 64) : lN a - lN b = lN (a + (2 ^ 64 - b)) := by
  have e : lN (a + (2 ^ 64 - b)) + lN b = lN a := by
    rw [lN_add, show a + (2 ^ 64 - b) + b = a + 2 ^ 64 by omega, wb_mod (a + 2 ^ 64), wb_mod a, Nat.add_mod_right]
  rw [← e, Int64.add_sub_cancel]
theorem borrow {c d e z : Nat} (hc : c < 2) (hd : d < 4294967296) (he : e < 4294967296) (hz : c * 18446744073709551615 + (d + (18446744073709551616 - e)) = z) : (d < e + c → 18446744069414584320 ≤ z % 18446744073709551616 ∧ z % 4294967296 + e + c = d + 4294967296) ∧ (e + c ≤ d → z % 18446744073709551616 = d - e - c ∧ z % 4294967296 + e + c = d) := by
  rcases (show c = 0 ∨ c = 1 by omega) with h | h <;> subst h <;> omega
theorem dX0_becomeDifference_0 : decode cX0_becomeDifference 0 = .ok (.aload_n 1, 1) := by decide +kernel
theorem dX0_becomeDifference_1 : decode cX0_becomeDifference 1 = .ok (.getfield 13, 3) := by decide +kernel
theorem dX0_becomeDifference_4 : decode cX0_becomeDifference 4 = .ok (.istore_n 3, 1) := by decide +kernel
theorem dX0_becomeDifference_5 : decode cX0_becomeDifference 5 = .ok (.lconst 0, 1) := by decide +kernel
theorem dX0_becomeDifference_6 : decode cX0_becomeDifference 6 = .ok (.lstore 4, 2) := by decide +kernel
theorem dX0_becomeDifference_8 : decode cX0_becomeDifference 8 = .ok (.iconst 0, 1) := by decide +kernel
theorem dX0_becomeDifference_9 : decode cX0_becomeDifference 9 = .ok (.istore 6, 2) := by decide +kernel
theorem dX0_becomeDifference_11 : decode cX0_becomeDifference 11 = .ok (.iload 6, 2) := by decide +kernel
theorem dX0_becomeDifference_13 : decode cX0_becomeDifference 13 = .ok (.iload_n 3, 1) := by decide +kernel
theorem dX0_becomeDifference_14 : decode cX0_becomeDifference 14 = .ok (.if_icmp .ge 44, 3) := by decide +kernel
theorem dX0_becomeDifference_17 : decode cX0_becomeDifference 17 = .ok (.lload 4, 2) := by decide +kernel
theorem dX0_becomeDifference_19 : decode cX0_becomeDifference 19 = .ok (.aload_n 1, 1) := by decide +kernel
theorem dX0_becomeDifference_20 : decode cX0_becomeDifference 20 = .ok (.iload 6, 2) := by decide +kernel
theorem dX0_becomeDifference_22 : decode cX0_becomeDifference 22 = .ok (.invokevirtual 31, 3) := by decide +kernel
theorem dX0_becomeDifference_25 : decode cX0_becomeDifference 25 = .ok (.aload_n 2, 1) := by decide +kernel
theorem dX0_becomeDifference_26 : decode cX0_becomeDifference 26 = .ok (.iload 6, 2) := by decide +kernel
theorem dX0_becomeDifference_28 : decode cX0_becomeDifference 28 = .ok (.invokevirtual 31, 3) := by decide +kernel
theorem dX0_becomeDifference_31 : decode cX0_becomeDifference 31 = .ok (.lsub, 1) := by decide +kernel
theorem dX0_becomeDifference_32 : decode cX0_becomeDifference 32 = .ok (.ladd, 1) := by decide +kernel
theorem dX0_becomeDifference_33 : decode cX0_becomeDifference 33 = .ok (.lstore 4, 2) := by decide +kernel
theorem dX0_becomeDifference_35 : decode cX0_becomeDifference 35 = .ok (.aload_n 0, 1) := by decide +kernel
theorem dX0_becomeDifference_36 : decode cX0_becomeDifference 36 = .ok (.getfield 9, 3) := by decide +kernel
theorem dX0_becomeDifference_39 : decode cX0_becomeDifference 39 = .ok (.iload 6, 2) := by decide +kernel
theorem dX0_becomeDifference_41 : decode cX0_becomeDifference 41 = .ok (.lload 4, 2) := by decide +kernel
theorem dX0_becomeDifference_43 : decode cX0_becomeDifference 43 = .ok (.l2i, 1) := by decide +kernel
theorem dX0_becomeDifference_44 : decode cX0_becomeDifference 44 = .ok (.iastore, 1) := by decide +kernel
theorem dX0_becomeDifference_45 : decode cX0_becomeDifference 45 = .ok (.lload 4, 2) := by decide +kernel
theorem dX0_becomeDifference_47 : decode cX0_becomeDifference 47 = .ok (.bipush 32, 2) := by decide +kernel
theorem dX0_becomeDifference_49 : decode cX0_becomeDifference 49 = .ok (.lshr, 1) := by decide +kernel
theorem dX0_becomeDifference_50 : decode cX0_becomeDifference 50 = .ok (.lstore 4, 2) := by decide +kernel
theorem dX0_becomeDifference_52 : decode cX0_becomeDifference 52 = .ok (.iinc 6 1, 3) := by decide +kernel
theorem dX0_becomeDifference_55 : decode cX0_becomeDifference 55 = .ok (.goto (-44), 3) := by decide +kernel
theorem dX0_becomeDifference_58 : decode cX0_becomeDifference 58 = .ok (.aload_n 0, 1) := by decide +kernel
theorem dX0_becomeDifference_59 : decode cX0_becomeDifference 59 = .ok (.iload_n 3, 1) := by decide +kernel
theorem dX0_becomeDifference_60 : decode cX0_becomeDifference 60 = .ok (.putfield 13, 3) := by decide +kernel
theorem dX0_becomeDifference_63 : decode cX0_becomeDifference 63 = .ok (.aload_n 0, 1) := by decide +kernel
theorem dX0_becomeDifference_64 : decode cX0_becomeDifference 64 = .ok (.invokevirtual 45, 3) := by decide +kernel
theorem dX0_becomeDifference_67 : decode cX0_becomeDifference 67 = .ok (.return_, 1) := by decide +kernel
abbrev r_X0_becomeDifference : Room := { frames := 1, cells := 0, slots := 0, locals := 21 }
abbrev m_X0_becomeDifference : xMd := (cX0_becomeDifference, RX0, 7, none, false, r_X0_becomeDifference)
def b_X0_becomeDifference_0 (Q : xQ) (K11 : xK) : xK := x_aload 1 <| x_get 1 1 <| x_istore 3 <| x_c (.long 0) <| x_lstore 4 <| x_c (.int 0) <| x_istore 6 <| K11
def b_X0_becomeDifference_11 (Q : xQ) (K11 : xK) : xK := x_iload 6 <| x_iload 3 <| x_icmp_ge (x_aload 0 <| x_iload 3 <| x_put 1 1 .int <| x_aload 0 <| x_callv 1 C_X0_trim 1 0 0 <| x_vret Q) <| x_lload 4 <| x_aload 1 <| x_iload 6 <| x_callv 1 C_X0_digit 2 0 0 <| x_aload 2 <| x_iload 6 <| x_callv 1 C_X0_digit 2 0 0 <| x_lsub <| x_ladd <| x_lstore 4 <| x_aload 0 <| x_get 1 0 <| x_iload 6 <| x_lload 4 <| x_l2i <| x_iast <| x_lload 4 <| x_c (.int 32) <| x_lshr <| x_lstore 4 <| x_iinc 6 1 <| K11
theorem s_X0_becomeDifference_0 (G : xG) (l : Launch) (Q : xQ) (K11 : xK) (h11 : xW G l m_X0_becomeDifference xX0 (xPm G Q r_X0_becomeDifference) 11 K11) : xW G l m_X0_becomeDifference xX0 (xPm G Q r_X0_becomeDifference) 0 (b_X0_becomeDifference_0 Q K11) := xo_aload_n (pc := 0) (i := 1) dX0_becomeDifference_0 rfl <| xo_get (pc := 1) (ci := 1) (i := 1) rfl ok1 (by decide) dX0_becomeDifference_1 kw77 <| xo_istore_n (pc := 4) (i := 3) dX0_becomeDifference_4 rfl (by decide) <| xo_lconst (pc := 5) dX0_becomeDifference_5 (by decide) <| xo_lstore (pc := 6) (i := 4) dX0_becomeDifference_6 (by decide) <| xo_iconst (pc := 8) dX0_becomeDifference_8 (by decide) <| xo_istore (pc := 9) (i := 6) dX0_becomeDifference_9 (by decide) <| h11
theorem s_X0_becomeDifference_11 (G : xG) (l : Launch) (Q : xQ) (K11 : xK) (h11 : xW G l m_X0_becomeDifference xX0 (xPm G Q r_X0_becomeDifference) 11 K11) : xW G l m_X0_becomeDifference xX0 (xPm G Q r_X0_becomeDifference) 11 (b_X0_becomeDifference_11 Q K11) := xo_iload (pc := 11) (i := 6) dX0_becomeDifference_11 <| xo_iload_n (pc := 13) (i := 3) dX0_becomeDifference_13 rfl <| xo_icmp_ge (pc := 14) (tgt := 58) dX0_becomeDifference_14 (by decide) (xo_aload_n (pc := 58) (i := 0) dX0_becomeDifference_58 rfl <| xo_iload_n (pc := 59) (i := 3) dX0_becomeDifference_59 rfl <| xo_put (pc := 60) (ci := 1) (i := 1) rfl ok1 (by decide) rfl rfl dX0_becomeDifference_60 kw77 <| xo_aload_n (pc := 63) (i := 0) dX0_becomeDifference_63 rfl <| xo_callV (pc := 64) (np := 0) (ci := 1) rfl (cM_X0_trim G l) dX0_becomeDifference_64 kw591 kw588 kw590 ks17 kw6 (by decide +kernel) (by decide) <| xo_vret (pc := 67) rfl dX0_becomeDifference_67) <| xo_lload (pc := 17) (i := 4) dX0_becomeDifference_17 <| xo_aload_n (pc := 19) (i := 1) dX0_becomeDifference_19 rfl <| xo_iload (pc := 20) (i := 6) dX0_becomeDifference_20 <| xo_callV (pc := 22) (np := 1) (ci := 1) rfl (cM_X0_digit G l) dX0_becomeDifference_22 kw587 kw584 kw585 kw586 kw6 (by decide +kernel) (by decide) <| xo_aload_n (pc := 25) (i := 2) dX0_becomeDifference_25 rfl <| xo_iload (pc := 26) (i := 6) dX0_becomeDifference_26 <| xo_callV (pc := 28) (np := 1) (ci := 1) rfl (cM_X0_digit G l) dX0_becomeDifference_28 kw587 kw584 kw585 kw586 kw6 (by decide +kernel) (by decide) <| xo_lsub (pc := 31) dX0_becomeDifference_31 <| xo_ladd (pc := 32) dX0_becomeDifference_32 <| xo_lstore (pc := 33) (i := 4) dX0_becomeDifference_33 (by decide) <| xo_aload_n (pc := 35) (i := 0) dX0_becomeDifference_35 rfl <| xo_get (pc := 36) (ci := 1) (i := 0) rfl ok1 (by decide) dX0_becomeDifference_36 kw76 <| xo_iload (pc := 39) (i := 6) dX0_becomeDifference_39 <| xo_lload (pc := 41) (i := 4) dX0_becomeDifference_41 <| xo_l2i (pc := 43) dX0_becomeDifference_43 <| xo_iast (pc := 44) dX0_becomeDifference_44 <| xo_lload (pc := 45) (i := 4) dX0_becomeDifference_45 <| xo_bipush (pc := 47) dX0_becomeDifference_47 (by decide) <| xo_lshr (pc := 49) dX0_becomeDifference_49 <| xo_lstore (pc := 50) (i := 4) dX0_becomeDifference_50 (by decide) <| xo_iinc (pc := 52) dX0_becomeDifference_52 (by decide) <| xo_goto (pc := 55) (tgt := 11) dX0_becomeDifference_55 (by decide) <| h11

def C_X0_becomeDifference : xC := fun av S Q => ∃ t a b u v, av = [.ref t, .ref a, .ref b] ∧ opd a t ∧ opd b t ∧ (∃ f n, bigR S.1 t f n) ∧ bigV S.1 a u ∧ bigV S.1 b v ∧ v ≤ u ∧ ∀ h', xoff h' S.1 t (t + 2) → bigV h' t (u - v) → Q none (h', S.2)
def cn_X0_becomeDifference : Nat × Nat × Nat × Nat × Nat × Nat → List (Nat × Value) := fun v => [(0, .ref v.1), (1, .ref v.2.1), (2, .ref v.2.2.1), (3, .int (nI v.2.2.2.1)), (4, .long (lN (v.2.2.2.2.1 * (2 ^ 64 - 1)))), (6, .int (nI v.2.2.2.2.2))]
def I_X0_becomeDifference (Q : xQ) : Nat → Nat × Nat × Nat × Nat × Nat × Nat → xS → Prop := fun k v S => match v with
  | (t, a, b, M, c, i) => ∃ f n d e, bigR S.1 t f n ∧ opd a t ∧ opd b t ∧ opI S.1 a i d ∧ opI S.1 b i e ∧ (∀ j, d j < 2 ^ 32) ∧ (∀ j, e j < 2 ^ 32) ∧ k + i = M ∧ M ≤ 200 ∧ c < 2 ∧ bv f i + sd (2 ^ 32) e i = sd (2 ^ 32) d i + c * 2 ^ (32 * i) ∧ sd (2 ^ 32) e M ≤ sd (2 ^ 32) d M ∧ ∀ h', xoff h' S.1 t (t + 2) → bigV h' t (sd (2 ^ 32) d M - sd (2 ^ 32) e M) → Q none (h', S.2)
theorem cM_X0_becomeDifference (G : xG) (l : Launch) : xM G l yX0_becomeDifference cX0_becomeDifference 7 none r_X0_becomeDifference C_X0_becomeDifference := by
  refine xM_of (fun Q => b_X0_becomeDifference_0 Q (xInv cn_X0_becomeDifference (I_X0_becomeDifference Q))) RX0 false (fun Q => s_X0_becomeDifference_0 G l Q _ (xW.lp (b_X0_becomeDifference_11 Q) (fun K hK => s_X0_becomeDifference_11 G l Q K hK) ?_)) (by decide) rfl (by decide) ?_
  · rintro k ⟨t, a, b, M, c, i⟩ S ⟨f, n, d, e, r, oa, ob, ia, ib, hd, he, hk, hM, hc, hv, hle, hQ⟩
    obtain ⟨fa, na, ra, ea⟩ := id ia
    obtain ⟨fb, nb, rb, eb⟩ := id ib
    have d1 := hd i
    have d2 := he i
    have hp : 2 ^ (32 * (i + 1)) = 2 ^ 32 * 2 ^ (32 * i) := by rw [← Nat.pow_add]; congr 1; omega
    have en := nI_leI (show M < 2 ^ 31 by omega) (show i < 2 ^ 31 by omega)
    simp only [x_c, x_iload, x_lload, x_aload, x_istore, x_lstore, x_astore, x_iinc, x_iadd, x_isub, x_imul, x_iand, x_ior, x_ixor, x_ladd, x_lsub, x_lmul, x_land, x_lor, x_lxor, x_idiv, x_irem, x_ldiv, x_lrem, x_ineg, x_lneg, x_ishl, x_ishr, x_iushr, x_lshl, x_lshr, x_lushr, x_i2l, x_l2i, x_i2b, x_i2c, x_lcmp, x_if_eq, x_if_ne, x_if_lt, x_if_ge, x_if_gt, x_if_le, x_icmp_eq, x_icmp_ne, x_icmp_lt, x_icmp_ge, x_icmp_gt, x_icmp_le, x_dup, x_pop, x_dup_x1, x_dup2, x_iret, x_zret, x_lret, x_aret, x_vret, x_call, x_callv, x_calli, x_oinit, x_mmax, x_mmin, x_mabs, x_mmaxL, x_mminL, x_mabsL, lg_cmp_ge, lg_cmp_le, lg_cmp_gt, lg_cmp_lt, lg_cmp_eq, xlk, xs1, xs2, lv_args, Value.category, List.filter_cons, List.filter_nil, Nat.reduceAdd, Nat.reduceBEq, Nat.reduceEqDiff, Nat.reduceSub, Nat.sub_zero, beq_self_eq_true, Bool.not_true, Bool.not_false, Bool.and_true, Bool.and_false, Bool.true_and, Bool.false_and, reduceIte, reduceCtorEq, Bool.false_eq_true, Nat.one_ne_zero, Nat.zero_ne_one, Nat.zero_add, Option.toList_some, Option.toList_none, List.nil_append, List.cons_append, List.take_succ_cons, List.take_zero, List.take_nil, List.drop_succ_cons, List.drop_zero, List.length_cons, List.length_nil, List.reverse_cons, List.reverse_nil, List.head?_cons, List.map_cons, List.map_nil, List.sum_cons, List.sum_nil, true_and, and_true, List.getElem?_cons_zero, List.getElem?_cons_succ, Prod.eta, x_get, x_put, x_iald, x_iast, x_bald, x_bast, x_lald, x_last, x_alen, xup_s, xup_a1, xup_1a, xup_uu, nr_i, nr_l, nr_o, nr_a, ft_i, ft_l, ft_o, ft_a, Nat.reduceLT, i_cl0, i_cl1, i_n1, i_m1, List.set_cons_zero, List.set_cons_succ, Nat.reduceLeDiff, Nat.le_refl, Nat.zero_le, Nat.add_zero, b_X0_becomeDifference_11, cn_X0_becomeDifference, en, r.1, r.2.1]
    refine ⟨fun q => ?_, fun q => ⟨⟨a, _, rfl, ra.1⟩, a, fa, na, _, ra, rfl, ?_⟩⟩
    · obtain rfl : i = M := by omega
      have rM := r.sz (show i ≤ 200 by omega)
      refine ⟨⟨t, _, rfl, rM.1⟩, t, f, i, rfl, rM, fun h' o' r' => hQ h' (xoff_tr o' off_sz) ?_⟩
      have h0 : c = 0 := by
        rcases (show c = 0 ∨ c = 1 by omega) with h | h
        · exact h
        · subst h
          have := bv_lt f i
          omega
      subst h0
      rw [show sd (2 ^ 32) d i - sd (2 ^ 32) e i = bv f i by omega]
      exact r'
    · simp only [x_c, x_iload, x_lload, x_aload, x_istore, x_lstore, x_astore, x_iinc, x_iadd, x_isub, x_imul, x_iand, x_ior, x_ixor, x_ladd, x_lsub, x_lmul, x_land, x_lor, x_lxor, x_idiv, x_irem, x_ldiv, x_lrem, x_ineg, x_lneg, x_ishl, x_ishr, x_iushr, x_lshl, x_lshr, x_lushr, x_i2l, x_l2i, x_i2b, x_i2c, x_lcmp, x_if_eq, x_if_ne, x_if_lt, x_if_ge, x_if_gt, x_if_le, x_icmp_eq, x_icmp_ne, x_icmp_lt, x_icmp_ge, x_icmp_gt, x_icmp_le, x_dup, x_pop, x_dup_x1, x_dup2, x_iret, x_zret, x_lret, x_aret, x_vret, x_call, x_callv, x_calli, x_oinit, x_mmax, x_mmin, x_mabs, x_mmaxL, x_mminL, x_mabsL, lg_cmp_ge, lg_cmp_le, lg_cmp_gt, lg_cmp_lt, lg_cmp_eq, xlk, xs1, xs2, lv_args, Value.category, List.filter_cons, List.filter_nil, Nat.reduceAdd, Nat.reduceBEq, Nat.reduceEqDiff, Nat.reduceSub, Nat.sub_zero, beq_self_eq_true, Bool.not_true, Bool.not_false, Bool.and_true, Bool.and_false, Bool.true_and, Bool.false_and, reduceIte, reduceCtorEq, Bool.false_eq_true, Nat.one_ne_zero, Nat.zero_ne_one, Nat.zero_add, Option.toList_some, Option.toList_none, List.nil_append, List.cons_append, List.take_succ_cons, List.take_zero, List.take_nil, List.drop_succ_cons, List.drop_zero, List.length_cons, List.length_nil, List.reverse_cons, List.reverse_nil, List.head?_cons, List.map_cons, List.map_nil, List.sum_cons, List.sum_nil, true_and, and_true, List.getElem?_cons_zero, List.getElem?_cons_succ, Prod.eta, x_get, x_put, x_iald, x_iast, x_bald, x_bast, x_lald, x_last, x_alen, xup_s, xup_a1, xup_1a, xup_uu, nr_i, nr_l, nr_o, nr_a, ft_i, ft_l, ft_o, ft_a, Nat.reduceLT, i_cl0, i_cl1, i_n1, i_m1, List.set_cons_zero, List.set_cons_succ, Nat.reduceLeDiff, Nat.le_refl, Nat.zero_le, Nat.add_zero]
      refine ⟨⟨b, _, rfl, rb.1⟩, b, fb, nb, _, rb, rfl, ?_⟩
      simp only [x_c, x_iload, x_lload, x_aload, x_istore, x_lstore, x_astore, x_iinc, x_iadd, x_isub, x_imul, x_iand, x_ior, x_ixor, x_ladd, x_lsub, x_lmul, x_land, x_lor, x_lxor, x_idiv, x_irem, x_ldiv, x_lrem, x_ineg, x_lneg, x_ishl, x_ishr, x_iushr, x_lshl, x_lshr, x_lushr, x_i2l, x_l2i, x_i2b, x_i2c, x_lcmp, x_if_eq, x_if_ne, x_if_lt, x_if_ge, x_if_gt, x_if_le, x_icmp_eq, x_icmp_ne, x_icmp_lt, x_icmp_ge, x_icmp_gt, x_icmp_le, x_dup, x_pop, x_dup_x1, x_dup2, x_iret, x_zret, x_lret, x_aret, x_vret, x_call, x_callv, x_calli, x_oinit, x_mmax, x_mmin, x_mabs, x_mmaxL, x_mminL, x_mabsL, lg_cmp_ge, lg_cmp_le, lg_cmp_gt, lg_cmp_lt, lg_cmp_eq, xlk, xs1, xs2, lv_args, Value.category, List.filter_cons, List.filter_nil, Nat.reduceAdd, Nat.reduceBEq, Nat.reduceEqDiff, Nat.reduceSub, Nat.sub_zero, beq_self_eq_true, Bool.not_true, Bool.not_false, Bool.and_true, Bool.and_false, Bool.true_and, Bool.false_and, reduceIte, reduceCtorEq, Bool.false_eq_true, Nat.one_ne_zero, Nat.zero_ne_one, Nat.zero_add, Option.toList_some, Option.toList_none, List.nil_append, List.cons_append, List.take_succ_cons, List.take_zero, List.take_nil, List.drop_succ_cons, List.drop_zero, List.length_cons, List.length_nil, List.reverse_cons, List.reverse_nil, List.head?_cons, List.map_cons, List.map_nil, List.sum_cons, List.sum_nil, true_and, and_true, List.getElem?_cons_zero, List.getElem?_cons_succ, Prod.eta, x_get, x_put, x_iald, x_iast, x_bald, x_bast, x_lald, x_last, x_alen, xup_s, xup_a1, xup_1a, xup_uu, nr_i, nr_l, nr_o, nr_a, ft_i, ft_l, ft_o, ft_a, Nat.reduceLT, i_cl0, i_cl1, i_n1, i_m1, List.set_cons_zero, List.set_cons_succ, Nat.reduceLeDiff, Nat.le_refl, Nat.zero_le, Nat.add_zero, r.1, r.2.1]
      rw [dgt_nI fa na (by omega), dgt_nI fb nb (by omega), ea i (Nat.le_refl i), eb i (Nat.le_refl i), lN_subw (by omega), lN_add, lN_l2i, nI_clamp (by omega)]
      generalize hz : c * (2 ^ 64 - 1) + (d i + (2 ^ 64 - e i)) = z
      have key : ∃ c', c' < 2 ∧ lN z >>> ((32 : Int32).toInt64 &&& 63) = lN (c' * (2 ^ 64 - 1)) ∧ z % 2 ^ 32 + e i + c = d i + c' * 2 ^ 32 := by
        obtain ⟨k1, k2⟩ := borrow (c := c) (d := d i) (e := e i) (z := z) hc d1 d2 hz
        rcases Nat.lt_or_ge (d i) (e i + c) with w | w
        · obtain ⟨w1, w2⟩ := k1 w
          exact ⟨1, by omega, by rw [wb_mod z, sar32_hi w1 (Nat.mod_lt _ (by decide)), Nat.one_mul], by rw [Nat.one_mul]; exact w2⟩
        · obtain ⟨w1, w2⟩ := k2 w
          exact ⟨0, by omega, by rw [wb_mod z, show z % 2 ^ 64 = d i - e i - c from w1, sar32_lo (by omega), Nat.div_eq_of_lt (by omega), Nat.zero_mul], by rw [Nat.zero_mul]; exact w2⟩
      obtain ⟨c', hc', e1, e2⟩ := key
      rw [e1]
      refine ⟨vp_in_nI (by omega) (by decide), xInvL.mk (k - 1) (t, a, b, M, c', i + 1) (by omega) ⟨rfl, rfl, rfl, rfl, rfl, rfl, trivial⟩ ⟨_, n, d, e, r.wr _, oa, ob, ia.step oa r, ib.step ob r, hd, he, by omega, hM, hc', ?_, hle, fun h' o' r' => hQ h' (xoff_tr o' off_wr) r'⟩⟩
      rw [bv, bv_upd_hi (Nat.le_refl i), pk_us, wn_nI, sd, sd, hp, ← Nat.pow_mul]
      generalize 2 ^ (32 * i) = E at *
      have h4 : (z % 2 ^ 32 + e i + c) * E = (d i + c' * 2 ^ 32) * E := by rw [e2]
      rw [Nat.add_mul, Nat.add_mul, Nat.add_mul] at h4
      have h5 : c' * (2 ^ 32 * E) = c' * 2 ^ 32 * E := (Nat.mul_assoc _ _ _).symm
      omega
  · rintro av S Q ⟨t, a, b, u, v, rfl, oa, ob, ⟨f, n, r⟩, ⟨fa, na, ra, rfl, za⟩, ⟨fb, nb, rb, rfl, zb⟩, hm, hQ⟩
    refine ⟨Nat.le_of_ble_eq_true rfl, ?_⟩
    have h1 := ra.2.2
    have h2 := rb.2.2
    have hnb : nb ≤ na := bv_size zb (Nat.lt_of_le_of_lt hm (bv_lt fa na))
    simp only [x_c, x_iload, x_lload, x_aload, x_istore, x_lstore, x_astore, x_iinc, x_iadd, x_isub, x_imul, x_iand, x_ior, x_ixor, x_ladd, x_lsub, x_lmul, x_land, x_lor, x_lxor, x_idiv, x_irem, x_ldiv, x_lrem, x_ineg, x_lneg, x_ishl, x_ishr, x_iushr, x_lshl, x_lshr, x_lushr, x_i2l, x_l2i, x_i2b, x_i2c, x_lcmp, x_if_eq, x_if_ne, x_if_lt, x_if_ge, x_if_gt, x_if_le, x_icmp_eq, x_icmp_ne, x_icmp_lt, x_icmp_ge, x_icmp_gt, x_icmp_le, x_dup, x_pop, x_dup_x1, x_dup2, x_iret, x_zret, x_lret, x_aret, x_vret, x_call, x_callv, x_calli, x_oinit, x_mmax, x_mmin, x_mabs, x_mmaxL, x_mminL, x_mabsL, lg_cmp_ge, lg_cmp_le, lg_cmp_gt, lg_cmp_lt, lg_cmp_eq, xlk, xs1, xs2, lv_args, Value.category, List.filter_cons, List.filter_nil, Nat.reduceAdd, Nat.reduceBEq, Nat.reduceEqDiff, Nat.reduceSub, Nat.sub_zero, beq_self_eq_true, Bool.not_true, Bool.not_false, Bool.and_true, Bool.and_false, Bool.true_and, Bool.false_and, reduceIte, reduceCtorEq, Bool.false_eq_true, Nat.one_ne_zero, Nat.zero_ne_one, Nat.zero_add, Option.toList_some, Option.toList_none, List.nil_append, List.cons_append, List.take_succ_cons, List.take_zero, List.take_nil, List.drop_succ_cons, List.drop_zero, List.length_cons, List.length_nil, List.reverse_cons, List.reverse_nil, List.head?_cons, List.map_cons, List.map_nil, List.sum_cons, List.sum_nil, true_and, and_true, List.getElem?_cons_zero, List.getElem?_cons_succ, Prod.eta, x_get, x_put, x_iald, x_iast, x_bald, x_bast, x_lald, x_last, x_alen, xup_s, xup_a1, xup_1a, xup_uu, nr_i, nr_l, nr_o, nr_a, ft_i, ft_l, ft_o, ft_a, Nat.reduceLT, i_cl0, i_cl1, i_n1, i_m1, List.set_cons_zero, List.set_cons_succ, Nat.reduceLeDiff, Nat.le_refl, Nat.zero_le, Nat.add_zero, b_X0_becomeDifference_0, ra.1]
    have cA := bv_dg (f := fa) (Nat.le_refl na)
    have cB := bv_dg (f := fb) hnb
    rw [cA, cB] at hm hQ
    have e0 : lN (0 * (2 ^ 64 - 1)) = 0 := by rw [Nat.zero_mul]; rfl
    exact xInv.mk na (t, a, b, na, 0, 0) ⟨rfl, rfl, rfl, rfl, congrArg (fun x => some (Value.long x)) e0.symm, rfl, trivial⟩ ⟨f, n, dg fa na, dg fb nb, r, oa, ob, ⟨fa, na, ra, fun _ _ => rfl⟩, ⟨fb, nb, rb, fun _ _ => rfl⟩, dg_lt fa na, dg_lt fb nb, rfl, by omega, by omega, rfl, hm, hQ⟩
