theorem dX0_becomeSum_0 : decode cX0_becomeSum 0 = .ok (.aload_n 1, 1) := by decide +kernel
theorem dX0_becomeSum_1 : decode cX0_becomeSum 1 = .ok (.getfield 13, 3) := by decide +kernel
theorem dX0_becomeSum_4 : decode cX0_becomeSum 4 = .ok (.aload_n 2, 1) := by decide +kernel
theorem dX0_becomeSum_5 : decode cX0_becomeSum 5 = .ok (.getfield 13, 3) := by decide +kernel
theorem dX0_becomeSum_8 : decode cX0_becomeSum 8 = .ok (.invokestatic 25, 3) := by decide +kernel
theorem dX0_becomeSum_11 : decode cX0_becomeSum 11 = .ok (.istore_n 3, 1) := by decide +kernel
theorem dX0_becomeSum_12 : decode cX0_becomeSum 12 = .ok (.lconst 0, 1) := by decide +kernel
theorem dX0_becomeSum_13 : decode cX0_becomeSum 13 = .ok (.lstore 4, 2) := by decide +kernel
theorem dX0_becomeSum_15 : decode cX0_becomeSum 15 = .ok (.iconst 0, 1) := by decide +kernel
theorem dX0_becomeSum_16 : decode cX0_becomeSum 16 = .ok (.istore 6, 2) := by decide +kernel
theorem dX0_becomeSum_18 : decode cX0_becomeSum 18 = .ok (.iload 6, 2) := by decide +kernel
theorem dX0_becomeSum_20 : decode cX0_becomeSum 20 = .ok (.iload_n 3, 1) := by decide +kernel
theorem dX0_becomeSum_21 : decode cX0_becomeSum 21 = .ok (.if_icmp .ge 44, 3) := by decide +kernel
theorem dX0_becomeSum_24 : decode cX0_becomeSum 24 = .ok (.lload 4, 2) := by decide +kernel
theorem dX0_becomeSum_26 : decode cX0_becomeSum 26 = .ok (.aload_n 1, 1) := by decide +kernel
theorem dX0_becomeSum_27 : decode cX0_becomeSum 27 = .ok (.iload 6, 2) := by decide +kernel
theorem dX0_becomeSum_29 : decode cX0_becomeSum 29 = .ok (.invokevirtual 31, 3) := by decide +kernel
theorem dX0_becomeSum_32 : decode cX0_becomeSum 32 = .ok (.aload_n 2, 1) := by decide +kernel
theorem dX0_becomeSum_33 : decode cX0_becomeSum 33 = .ok (.iload 6, 2) := by decide +kernel
theorem dX0_becomeSum_35 : decode cX0_becomeSum 35 = .ok (.invokevirtual 31, 3) := by decide +kernel
theorem dX0_becomeSum_38 : decode cX0_becomeSum 38 = .ok (.ladd, 1) := by decide +kernel
theorem dX0_becomeSum_39 : decode cX0_becomeSum 39 = .ok (.ladd, 1) := by decide +kernel
theorem dX0_becomeSum_40 : decode cX0_becomeSum 40 = .ok (.lstore 4, 2) := by decide +kernel
theorem dX0_becomeSum_42 : decode cX0_becomeSum 42 = .ok (.aload_n 0, 1) := by decide +kernel
theorem dX0_becomeSum_43 : decode cX0_becomeSum 43 = .ok (.getfield 9, 3) := by decide +kernel
theorem dX0_becomeSum_46 : decode cX0_becomeSum 46 = .ok (.iload 6, 2) := by decide +kernel
theorem dX0_becomeSum_48 : decode cX0_becomeSum 48 = .ok (.lload 4, 2) := by decide +kernel
theorem dX0_becomeSum_50 : decode cX0_becomeSum 50 = .ok (.l2i, 1) := by decide +kernel
theorem dX0_becomeSum_51 : decode cX0_becomeSum 51 = .ok (.iastore, 1) := by decide +kernel
theorem dX0_becomeSum_52 : decode cX0_becomeSum 52 = .ok (.lload 4, 2) := by decide +kernel
theorem dX0_becomeSum_54 : decode cX0_becomeSum 54 = .ok (.bipush 32, 2) := by decide +kernel
theorem dX0_becomeSum_56 : decode cX0_becomeSum 56 = .ok (.lushr, 1) := by decide +kernel
theorem dX0_becomeSum_57 : decode cX0_becomeSum 57 = .ok (.lstore 4, 2) := by decide +kernel
theorem dX0_becomeSum_59 : decode cX0_becomeSum 59 = .ok (.iinc 6 1, 3) := by decide +kernel
theorem dX0_becomeSum_62 : decode cX0_becomeSum 62 = .ok (.goto (-44), 3) := by decide +kernel
theorem dX0_becomeSum_65 : decode cX0_becomeSum 65 = .ok (.aload_n 0, 1) := by decide +kernel
theorem dX0_becomeSum_66 : decode cX0_becomeSum 66 = .ok (.iload_n 3, 1) := by decide +kernel
theorem dX0_becomeSum_67 : decode cX0_becomeSum 67 = .ok (.putfield 13, 3) := by decide +kernel
theorem dX0_becomeSum_70 : decode cX0_becomeSum 70 = .ok (.aload_n 0, 1) := by decide +kernel
theorem dX0_becomeSum_71 : decode cX0_becomeSum 71 = .ok (.lload 4, 2) := by decide +kernel
theorem dX0_becomeSum_73 : decode cX0_becomeSum 73 = .ok (.invokevirtual 41, 3) := by decide +kernel
theorem dX0_becomeSum_76 : decode cX0_becomeSum 76 = .ok (.return_, 1) := by decide +kernel
abbrev r_X0_becomeSum : Room := { frames := 1, cells := 0, slots := 0, locals := 22 }
abbrev m_X0_becomeSum : xMd := (cX0_becomeSum, RX0, 7, none, false, r_X0_becomeSum)
def b_X0_becomeSum_0 (Q : xQ) (K18 : xK) : xK := x_aload 1 <| x_get 1 1 <| x_aload 2 <| x_get 1 1 <| x_mmax <| x_istore 3 <| x_c (.long 0) <| x_lstore 4 <| x_c (.int 0) <| x_istore 6 <| K18
def b_X0_becomeSum_18 (Q : xQ) (K18 : xK) : xK := x_iload 6 <| x_iload 3 <| x_icmp_ge (x_aload 0 <| x_iload 3 <| x_put 1 1 .int <| x_aload 0 <| x_lload 4 <| x_callv 1 C_X0_push 2 0 0 <| x_vret Q) <| x_lload 4 <| x_aload 1 <| x_iload 6 <| x_callv 1 C_X0_digit 2 0 0 <| x_aload 2 <| x_iload 6 <| x_callv 1 C_X0_digit 2 0 0 <| x_ladd <| x_ladd <| x_lstore 4 <| x_aload 0 <| x_get 1 0 <| x_iload 6 <| x_lload 4 <| x_l2i <| x_iast <| x_lload 4 <| x_c (.int 32) <| x_lushr <| x_lstore 4 <| x_iinc 6 1 <| K18
theorem s_X0_becomeSum_0 (G : xG) (l : Launch) (Q : xQ) (K18 : xK) (h18 : xW G l m_X0_becomeSum xX0 (xPm G Q r_X0_becomeSum) 18 K18) : xW G l m_X0_becomeSum xX0 (xPm G Q r_X0_becomeSum) 0 (b_X0_becomeSum_0 Q K18) := xo_aload_n (pc := 0) (i := 1) dX0_becomeSum_0 rfl <| xo_get (pc := 1) (ci := 1) (i := 1) rfl ok1 (by decide) dX0_becomeSum_1 kw77 <| xo_aload_n (pc := 4) (i := 2) dX0_becomeSum_4 rfl <| xo_get (pc := 5) (ci := 1) (i := 1) rfl ok1 (by decide) dX0_becomeSum_5 kw77 <| xo_mmax (pc := 8) dX0_becomeSum_8 kw595 kw537 kw17 kw538 (by decide) <| xo_istore_n (pc := 11) (i := 3) dX0_becomeSum_11 rfl (by decide) <| xo_lconst (pc := 12) dX0_becomeSum_12 (by decide) <| xo_lstore (pc := 13) (i := 4) dX0_becomeSum_13 (by decide) <| xo_iconst (pc := 15) dX0_becomeSum_15 (by decide) <| xo_istore (pc := 16) (i := 6) dX0_becomeSum_16 (by decide) <| h18
theorem s_X0_becomeSum_18 (G : xG) (l : Launch) (Q : xQ) (K18 : xK) (h18 : xW G l m_X0_becomeSum xX0 (xPm G Q r_X0_becomeSum) 18 K18) : xW G l m_X0_becomeSum xX0 (xPm G Q r_X0_becomeSum) 18 (b_X0_becomeSum_18 Q K18) := xo_iload (pc := 18) (i := 6) dX0_becomeSum_18 <| xo_iload_n (pc := 20) (i := 3) dX0_becomeSum_20 rfl <| xo_icmp_ge (pc := 21) (tgt := 65) dX0_becomeSum_21 (by decide) (xo_aload_n (pc := 65) (i := 0) dX0_becomeSum_65 rfl <| xo_iload_n (pc := 66) (i := 3) dX0_becomeSum_66 rfl <| xo_put (pc := 67) (ci := 1) (i := 1) rfl ok1 (by decide) rfl rfl dX0_becomeSum_67 kw77 <| xo_aload_n (pc := 70) (i := 0) dX0_becomeSum_70 rfl <| xo_lload (pc := 71) (i := 4) dX0_becomeSum_71 <| xo_callV (pc := 73) (np := 1) (ci := 1) rfl (cM_X0_push G l) dX0_becomeSum_73 kw535 kw532 kw534 ks13 kw6 (by decide +kernel) (by decide) <| xo_vret (pc := 76) rfl dX0_becomeSum_76) <| xo_lload (pc := 24) (i := 4) dX0_becomeSum_24 <| xo_aload_n (pc := 26) (i := 1) dX0_becomeSum_26 rfl <| xo_iload (pc := 27) (i := 6) dX0_becomeSum_27 <| xo_callV (pc := 29) (np := 1) (ci := 1) rfl (cM_X0_digit G l) dX0_becomeSum_29 kw587 kw584 kw585 kw586 kw6 (by decide +kernel) (by decide) <| xo_aload_n (pc := 32) (i := 2) dX0_becomeSum_32 rfl <| xo_iload (pc := 33) (i := 6) dX0_becomeSum_33 <| xo_callV (pc := 35) (np := 1) (ci := 1) rfl (cM_X0_digit G l) dX0_becomeSum_35 kw587 kw584 kw585 kw586 kw6 (by decide +kernel) (by decide) <| xo_ladd (pc := 38) dX0_becomeSum_38 <| xo_ladd (pc := 39) dX0_becomeSum_39 <| xo_lstore (pc := 40) (i := 4) dX0_becomeSum_40 (by decide) <| xo_aload_n (pc := 42) (i := 0) dX0_becomeSum_42 rfl <| xo_get (pc := 43) (ci := 1) (i := 0) rfl ok1 (by decide) dX0_becomeSum_43 kw76 <| xo_iload (pc := 46) (i := 6) dX0_becomeSum_46 <| xo_lload (pc := 48) (i := 4) dX0_becomeSum_48 <| xo_l2i (pc := 50) dX0_becomeSum_50 <| xo_iast (pc := 51) dX0_becomeSum_51 <| xo_lload (pc := 52) (i := 4) dX0_becomeSum_52 <| xo_bipush (pc := 54) dX0_becomeSum_54 (by decide) <| xo_lushr (pc := 56) dX0_becomeSum_56 <| xo_lstore (pc := 57) (i := 4) dX0_becomeSum_57 (by decide) <| xo_iinc (pc := 59) dX0_becomeSum_59 (by decide) <| xo_goto (pc := 62) (tgt := 18) dX0_becomeSum_62 (by decide) <| h18

/-- the place of an operand beside the target: the same, or apart -/
def opd (a t : Nat) : Prop := a = t ∨ a + 2 ≤ t ∨ t + 2 ≤ a
def C_X0_becomeSum : xC := fun av S Q => ∃ t a b u v, av = [.ref t, .ref a, .ref b] ∧ opd a t ∧ opd b t ∧ (∃ f n, bigR S.1 t f n) ∧ bigV S.1 a u ∧ bigV S.1 b v ∧ u + v < 2 ^ 6400 ∧ ∀ h', xoff h' S.1 t (t + 2) → bigV h' t (u + v) → Q none (h', S.2)
/-- the digits of an operand from i on are those of d -/
def opI (h : xH) (a i : Nat) (d : Nat → Nat) : Prop := ∃ f n, bigR h a f n ∧ ∀ j, i ≤ j → dg f n j = d j
theorem opI.step {h : xH} {a t i : Nat} {d : Nat → Nat} {f : Nat → Int32} {n : Nat} {x : Int32} (o : opI h a i d) (p : opd a t) (r : bigR h t f n) : opI (xup h (t + 1) (.inl (0, 200, .inl (upd f i x)))) a (i + 1) d := by
  obtain ⟨g, m, r', e⟩ := o
  rcases p with rfl | p
  · have e1 : nI m = nI n := by have := r'.1.symm.trans r.1; simpa using this
    have e2 : m = n := (nI_eq (by have := r'.2.2; omega) (by have := r.2.2; omega)).mp e1
    have e3 : g = f := by have := r'.2.1.symm.trans r.2.1; simpa using this
    subst e2 e3
    refine ⟨upd g i x, m, r.wr _, fun j hj => ?_⟩
    rw [← e j (by omega)]
    unfold dg
    rw [pk_un (by omega)]
  · exact ⟨g, m, r'.off off_wr (by omega), fun j hj => e j (by omega)⟩
def cn_X0_becomeSum : Nat × Nat × Nat × Nat × Nat × Nat → List (Nat × Value) := fun v => [(0, .ref v.1), (1, .ref v.2.1), (2, .ref v.2.2.1), (3, .int (nI v.2.2.2.1)), (4, .long (lN v.2.2.2.2.1)), (6, .int (nI v.2.2.2.2.2))]
def I_X0_becomeSum (Q : xQ) : Nat → Nat × Nat × Nat × Nat × Nat × Nat → xS → Prop := fun k v S => match v with
  | (t, a, b, M, c, i) => ∃ f n d e, bigR S.1 t f n ∧ opd a t ∧ opd b t ∧ opI S.1 a i d ∧ opI S.1 b i e ∧ (∀ j, d j < 2 ^ 32) ∧ (∀ j, e j < 2 ^ 32) ∧ k + i = M ∧ M ≤ 200 ∧ c < 2 ∧ bv f i + c * 2 ^ (32 * i) = sd (2 ^ 32) d i + sd (2 ^ 32) e i ∧ sd (2 ^ 32) d M + sd (2 ^ 32) e M < 2 ^ 6400 ∧ (0 < M → 2 ^ (32 * (M - 1)) ≤ sd (2 ^ 32) d M + sd (2 ^ 32) e M) ∧ ∀ h', xoff h' S.1 t (t + 2) → bigV h' t (sd (2 ^ 32) d M + sd (2 ^ 32) e M) → Q none (h', S.2)
theorem cM_X0_becomeSum (G : xG) (l : Launch) : xM G l yX0_becomeSum cX0_becomeSum 7 none r_X0_becomeSum C_X0_becomeSum := by
  refine xM_of (fun Q => b_X0_becomeSum_0 Q (xInv cn_X0_becomeSum (I_X0_becomeSum Q))) RX0 false (fun Q => s_X0_becomeSum_0 G l Q _ (xW.lp (b_X0_becomeSum_18 Q) (fun K hK => s_X0_becomeSum_18 G l Q K hK) ?_)) (by decide) rfl (by decide) ?_
  · rintro k ⟨t, a, b, M, c, i⟩ S ⟨f, n, d, e, r, oa, ob, ia, ib, hd, he, hk, hM, hc, hv, hmax, hlow, hQ⟩
    obtain ⟨fa, na, ra, ea⟩ := id ia
    obtain ⟨fb, nb, rb, eb⟩ := id ib
    have d1 := hd i
    have d2 := he i
    have hp : 2 ^ (32 * (i + 1)) = 2 ^ 32 * 2 ^ (32 * i) := by rw [← Nat.pow_add]; congr 1; omega
    have en := nI_leI (show M < 2 ^ 31 by omega) (show i < 2 ^ 31 by omega)
    simp only [x_c, x_iload, x_lload, x_aload, x_istore, x_lstore, x_astore, x_iinc, x_iadd, x_isub, x_imul, x_iand, x_ior, x_ixor, x_ladd, x_lsub, x_lmul, x_land, x_lor, x_lxor, x_idiv, x_irem, x_ldiv, x_lrem, x_ineg, x_lneg, x_ishl, x_ishr, x_iushr, x_lshl, x_lshr, x_lushr, x_i2l, x_l2i, x_i2b, x_i2c, x_lcmp, x_if_eq, x_if_ne, x_if_lt, x_if_ge, x_if_gt, x_if_le, x_icmp_eq, x_icmp_ne, x_icmp_lt, x_icmp_ge, x_icmp_gt, x_icmp_le, x_dup, x_pop, x_dup_x1, x_dup2, x_iret, x_zret, x_lret, x_aret, x_vret, x_call, x_callv, x_calli, x_oinit, x_mmax, x_mmin, x_mabs, x_mmaxL, x_mminL, x_mabsL, lg_cmp_ge, lg_cmp_le, lg_cmp_gt, lg_cmp_lt, lg_cmp_eq, xlk, xs1, xs2, lv_args, Value.category, List.filter_cons, List.filter_nil, Nat.reduceAdd, Nat.reduceBEq, Nat.reduceEqDiff, Nat.reduceSub, Nat.sub_zero, beq_self_eq_true, Bool.not_true, Bool.not_false, Bool.and_true, Bool.and_false, Bool.true_and, Bool.false_and, reduceIte, reduceCtorEq, Bool.false_eq_true, Nat.one_ne_zero, Nat.zero_ne_one, Nat.zero_add, Option.toList_some, Option.toList_none, List.nil_append, List.cons_append, List.take_succ_cons, List.take_zero, List.take_nil, List.drop_succ_cons, List.drop_zero, List.length_cons, List.length_nil, List.reverse_cons, List.reverse_nil, List.head?_cons, List.map_cons, List.map_nil, List.sum_cons, List.sum_nil, true_and, and_true, List.getElem?_cons_zero, List.getElem?_cons_succ, Prod.eta, x_get, x_put, x_iald, x_iast, x_bald, x_bast, x_lald, x_last, x_alen, xup_s, xup_a1, xup_1a, xup_uu, nr_i, nr_l, nr_o, nr_a, ft_i, ft_l, ft_o, ft_a, Nat.reduceLT, i_cl0, i_cl1, i_n1, i_m1, List.set_cons_zero, List.set_cons_succ, Nat.reduceLeDiff, Nat.le_refl, Nat.zero_le, Nat.add_zero, b_X0_becomeSum_18, cn_X0_becomeSum, en, r.1, r.2.1]
    refine ⟨fun q => ?_, fun q => ⟨⟨a, _, rfl, ra.1⟩, a, fa, na, _, ra, rfl, ?_⟩⟩
    · obtain rfl : i = M := by omega
      have rM := r.sz (show i ≤ 200 by omega)
      refine ⟨⟨t, _, rfl, rM.1⟩, t, f, i, c, rfl, rM, by omega, fun hc0 => ?_, fun h' o' r' => hQ h' (xoff_tr o' off_sz) ?_⟩
      · have h1 : c = 1 := by omega
        subst h1
        rcases Nat.lt_or_ge i 200 with z | z
        · exact z
        · have : i = 200 := by omega
          subst this
          rw [show 32 * 200 = 6400 from rfl] at hv
          omega
      · rw [← hv]
        rcases r' with ⟨rfl, r'⟩ | ⟨h0, r'⟩
        · exact ⟨f, i, r', by omega, fun hpos => bv_norm (by have := hlow hpos; omega) hpos⟩
        · have h1 : c = 1 := by omega
          subst h1
          refine ⟨_, _, r', ?_, fun _ => ?_⟩
          · rw [bv, bv_upd_hi (Nat.le_refl i), pk_us]; rfl
          · simp only [Nat.add_sub_cancel, pk_us]; decide
    · simp only [x_c, x_iload, x_lload, x_aload, x_istore, x_lstore, x_astore, x_iinc, x_iadd, x_isub, x_imul, x_iand, x_ior, x_ixor, x_ladd, x_lsub, x_lmul, x_land, x_lor, x_lxor, x_idiv, x_irem, x_ldiv, x_lrem, x_ineg, x_lneg, x_ishl, x_ishr, x_iushr, x_lshl, x_lshr, x_lushr, x_i2l, x_l2i, x_i2b, x_i2c, x_lcmp, x_if_eq, x_if_ne, x_if_lt, x_if_ge, x_if_gt, x_if_le, x_icmp_eq, x_icmp_ne, x_icmp_lt, x_icmp_ge, x_icmp_gt, x_icmp_le, x_dup, x_pop, x_dup_x1, x_dup2, x_iret, x_zret, x_lret, x_aret, x_vret, x_call, x_callv, x_calli, x_oinit, x_mmax, x_mmin, x_mabs, x_mmaxL, x_mminL, x_mabsL, lg_cmp_ge, lg_cmp_le, lg_cmp_gt, lg_cmp_lt, lg_cmp_eq, xlk, xs1, xs2, lv_args, Value.category, List.filter_cons, List.filter_nil, Nat.reduceAdd, Nat.reduceBEq, Nat.reduceEqDiff, Nat.reduceSub, Nat.sub_zero, beq_self_eq_true, Bool.not_true, Bool.not_false, Bool.and_true, Bool.and_false, Bool.true_and, Bool.false_and, reduceIte, reduceCtorEq, Bool.false_eq_true, Nat.one_ne_zero, Nat.zero_ne_one, Nat.zero_add, Option.toList_some, Option.toList_none, List.nil_append, List.cons_append, List.take_succ_cons, List.take_zero, List.take_nil, List.drop_succ_cons, List.drop_zero, List.length_cons, List.length_nil, List.reverse_cons, List.reverse_nil, List.head?_cons, List.map_cons, List.map_nil, List.sum_cons, List.sum_nil, true_and, and_true, List.getElem?_cons_zero, List.getElem?_cons_succ, Prod.eta, x_get, x_put, x_iald, x_iast, x_bald, x_bast, x_lald, x_last, x_alen, xup_s, xup_a1, xup_1a, xup_uu, nr_i, nr_l, nr_o, nr_a, ft_i, ft_l, ft_o, ft_a, Nat.reduceLT, i_cl0, i_cl1, i_n1, i_m1, List.set_cons_zero, List.set_cons_succ, Nat.reduceLeDiff, Nat.le_refl, Nat.zero_le, Nat.add_zero]
      refine ⟨⟨b, _, rfl, rb.1⟩, b, fb, nb, _, rb, rfl, ?_⟩
      simp only [x_c, x_iload, x_lload, x_aload, x_istore, x_lstore, x_astore, x_iinc, x_iadd, x_isub, x_imul, x_iand, x_ior, x_ixor, x_ladd, x_lsub, x_lmul, x_land, x_lor, x_lxor, x_idiv, x_irem, x_ldiv, x_lrem, x_ineg, x_lneg, x_ishl, x_ishr, x_iushr, x_lshl, x_lshr, x_lushr, x_i2l, x_l2i, x_i2b, x_i2c, x_lcmp, x_if_eq, x_if_ne, x_if_lt, x_if_ge, x_if_gt, x_if_le, x_icmp_eq, x_icmp_ne, x_icmp_lt, x_icmp_ge, x_icmp_gt, x_icmp_le, x_dup, x_pop, x_dup_x1, x_dup2, x_iret, x_zret, x_lret, x_aret, x_vret, x_call, x_callv, x_calli, x_oinit, x_mmax, x_mmin, x_mabs, x_mmaxL, x_mminL, x_mabsL, lg_cmp_ge, lg_cmp_le, lg_cmp_gt, lg_cmp_lt, lg_cmp_eq, xlk, xs1, xs2, lv_args, Value.category, List.filter_cons, List.filter_nil, Nat.reduceAdd, Nat.reduceBEq, Nat.reduceEqDiff, Nat.reduceSub, Nat.sub_zero, beq_self_eq_true, Bool.not_true, Bool.not_false, Bool.and_true, Bool.and_false, Bool.true_and, Bool.false_and, reduceIte, reduceCtorEq, Bool.false_eq_true, Nat.one_ne_zero, Nat.zero_ne_one, Nat.zero_add, Option.toList_some, Option.toList_none, List.nil_append, List.cons_append, List.take_succ_cons, List.take_zero, List.take_nil, List.drop_succ_cons, List.drop_zero, List.length_cons, List.length_nil, List.reverse_cons, List.reverse_nil, List.head?_cons, List.map_cons, List.map_nil, List.sum_cons, List.sum_nil, true_and, and_true, List.getElem?_cons_zero, List.getElem?_cons_succ, Prod.eta, x_get, x_put, x_iald, x_iast, x_bald, x_bast, x_lald, x_last, x_alen, xup_s, xup_a1, xup_1a, xup_uu, nr_i, nr_l, nr_o, nr_a, ft_i, ft_l, ft_o, ft_a, Nat.reduceLT, i_cl0, i_cl1, i_n1, i_m1, List.set_cons_zero, List.set_cons_succ, Nat.reduceLeDiff, Nat.le_refl, Nat.zero_le, Nat.add_zero, r.1, r.2.1]
      rw [dgt_nI fa na (by omega), dgt_nI fb nb (by omega), ea i (Nat.le_refl i), eb i (Nat.le_refl i), lN_add, lN_add, lN_l2i, lN_ush32 (by omega), nI_clamp (by omega)]
      refine ⟨vp_in_nI (by omega) (by decide), xInvL.mk (k - 1) (t, a, b, M, (c + (d i + e i)) / 2 ^ 32, i + 1) (by omega) ⟨rfl, rfl, rfl, rfl, rfl, rfl, trivial⟩ ⟨_, n, d, e, r.wr _, oa, ob, ia.step oa r, ib.step ob r, hd, he, by omega, hM, by omega, ?_, hmax, hlow, fun h' o' r' => hQ h' (xoff_tr o' off_wr) r'⟩⟩
      rw [bv, bv_upd_hi (Nat.le_refl i), pk_us, wn_nI, sd, sd, hp, ← Nat.pow_mul]
      generalize 2 ^ (32 * i) = E at *
      generalize hz : c + (d i + e i) = z at *
      have h1 := Nat.div_add_mod z (2 ^ 32)
      have h2 : z * E = (2 ^ 32 * (z / 2 ^ 32) + z % 2 ^ 32) * E := by rw [h1]
      rw [Nat.add_mul] at h2
      have h3 : z / 2 ^ 32 * (2 ^ 32 * E) = 2 ^ 32 * (z / 2 ^ 32) * E := by ac_rfl
      rw [h3]
      have h4 : z * E = c * E + (d i * E + e i * E) := by rw [← hz, Nat.add_mul, Nat.add_mul]
      omega
  · rintro av S Q ⟨t, a, b, u, v, rfl, oa, ob, ⟨f, n, r⟩, ⟨fa, na, ra, rfl, za⟩, ⟨fb, nb, rb, rfl, zb⟩, hm, hQ⟩
    refine ⟨Nat.le_of_ble_eq_true rfl, ?_⟩
    have h1 := ra.2.2
    have h2 := rb.2.2
    have e : (if nI na < nI nb then nI nb else nI na) = nI (max na nb) := by
      simp only [nI_ltI (show na < 2 ^ 31 by omega) (show nb < 2 ^ 31 by omega)]
      split
      · rw [show max na nb = nb by omega]
      · rw [show max na nb = na by omega]
    simp only [x_c, x_iload, x_lload, x_aload, x_istore, x_lstore, x_astore, x_iinc, x_iadd, x_isub, x_imul, x_iand, x_ior, x_ixor, x_ladd, x_lsub, x_lmul, x_land, x_lor, x_lxor, x_idiv, x_irem, x_ldiv, x_lrem, x_ineg, x_lneg, x_ishl, x_ishr, x_iushr, x_lshl, x_lshr, x_lushr, x_i2l, x_l2i, x_i2b, x_i2c, x_lcmp, x_if_eq, x_if_ne, x_if_lt, x_if_ge, x_if_gt, x_if_le, x_icmp_eq, x_icmp_ne, x_icmp_lt, x_icmp_ge, x_icmp_gt, x_icmp_le, x_dup, x_pop, x_dup_x1, x_dup2, x_iret, x_zret, x_lret, x_aret, x_vret, x_call, x_callv, x_calli, x_oinit, x_mmax, x_mmin, x_mabs, x_mmaxL, x_mminL, x_mabsL, lg_cmp_ge, lg_cmp_le, lg_cmp_gt, lg_cmp_lt, lg_cmp_eq, xlk, xs1, xs2, lv_args, Value.category, List.filter_cons, List.filter_nil, Nat.reduceAdd, Nat.reduceBEq, Nat.reduceEqDiff, Nat.reduceSub, Nat.sub_zero, beq_self_eq_true, Bool.not_true, Bool.not_false, Bool.and_true, Bool.and_false, Bool.true_and, Bool.false_and, reduceIte, reduceCtorEq, Bool.false_eq_true, Nat.one_ne_zero, Nat.zero_ne_one, Nat.zero_add, Option.toList_some, Option.toList_none, List.nil_append, List.cons_append, List.take_succ_cons, List.take_zero, List.take_nil, List.drop_succ_cons, List.drop_zero, List.length_cons, List.length_nil, List.reverse_cons, List.reverse_nil, List.head?_cons, List.map_cons, List.map_nil, List.sum_cons, List.sum_nil, true_and, and_true, List.getElem?_cons_zero, List.getElem?_cons_succ, Prod.eta, x_get, x_put, x_iald, x_iast, x_bald, x_bast, x_lald, x_last, x_alen, xup_s, xup_a1, xup_1a, xup_uu, nr_i, nr_l, nr_o, nr_a, ft_i, ft_l, ft_o, ft_a, Nat.reduceLT, i_cl0, i_cl1, i_n1, i_m1, List.set_cons_zero, List.set_cons_succ, Nat.reduceLeDiff, Nat.le_refl, Nat.zero_le, Nat.add_zero, b_X0_becomeSum_0, ra.1, rb.1, e]
    have cA := bv_dg (f := fa) (Nat.le_max_left na nb)
    have cB := bv_dg (f := fb) (Nat.le_max_right na nb)
    rw [cA, cB] at hm hQ
    refine xInv.mk (max na nb) (t, a, b, max na nb, 0, 0) ⟨rfl, rfl, rfl, rfl, rfl, rfl, trivial⟩ ⟨f, n, dg fa na, dg fb nb, r, oa, ob, ⟨fa, na, ra, fun _ _ => rfl⟩, ⟨fb, nb, rb, fun _ _ => rfl⟩, dg_lt fa na, dg_lt fb nb, rfl, by omega, by omega, rfl, hm, fun hpos => ?_, hQ⟩
    rw [← cA, ← cB]
    rcases Nat.le_total na nb with z | z
    · rw [show max na nb = nb by omega] at hpos ⊢
      have := bv_top hpos (zb hpos)
      omega
    · rw [show max na nb = na by omega] at hpos ⊢
      have := bv_top hpos (za hpos)
      omega
theorem dX0_timesPlus_0 : decode cX0_timesPlus 0 = .ok (.iload_n 2, 1) := by decide +kernel
theorem dX0_timesPlus_1 : decode cX0_timesPlus 1 = .ok (.i2l, 1) := by decide +kernel
theorem dX0_timesPlus_2 : decode cX0_timesPlus 2 = .ok (.lstore_n 3, 1) := by decide +kernel
theorem dX0_timesPlus_3 : decode cX0_timesPlus 3 = .ok (.iconst 0, 1) := by decide +kernel
theorem dX0_timesPlus_4 : decode cX0_timesPlus 4 = .ok (.istore 5, 2) := by decide +kernel
theorem dX0_timesPlus_6 : decode cX0_timesPlus 6 = .ok (.iload 5, 2) := by decide +kernel
theorem dX0_timesPlus_8 : decode cX0_timesPlus 8 = .ok (.aload_n 0, 1) := by decide +kernel
theorem dX0_timesPlus_9 : decode cX0_timesPlus 9 = .ok (.getfield 13, 3) := by decide +kernel
theorem dX0_timesPlus_12 : decode cX0_timesPlus 12 = .ok (.if_icmp .ge 41, 3) := by decide +kernel
theorem dX0_timesPlus_15 : decode cX0_timesPlus 15 = .ok (.lload_n 3, 1) := by decide +kernel
theorem dX0_timesPlus_16 : decode cX0_timesPlus 16 = .ok (.iload_n 1, 1) := by decide +kernel
theorem dX0_timesPlus_17 : decode cX0_timesPlus 17 = .ok (.i2l, 1) := by decide +kernel
theorem dX0_timesPlus_18 : decode cX0_timesPlus 18 = .ok (.aload_n 0, 1) := by decide +kernel
theorem dX0_timesPlus_19 : decode cX0_timesPlus 19 = .ok (.getfield 9, 3) := by decide +kernel
theorem dX0_timesPlus_22 : decode cX0_timesPlus 22 = .ok (.iload 5, 2) := by decide +kernel
theorem dX0_timesPlus_24 : decode cX0_timesPlus 24 = .ok (.iaload, 1) := by decide +kernel
theorem dX0_timesPlus_25 : decode cX0_timesPlus 25 = .ok (.i2l, 1) := by decide +kernel
theorem dX0_timesPlus_26 : decode cX0_timesPlus 26 = .ok (.ldc2_w 23, 3) := by decide +kernel
theorem dX0_timesPlus_29 : decode cX0_timesPlus 29 = .ok (.land, 1) := by decide +kernel
theorem dX0_timesPlus_30 : decode cX0_timesPlus 30 = .ok (.lmul, 1) := by decide +kernel
theorem dX0_timesPlus_31 : decode cX0_timesPlus 31 = .ok (.ladd, 1) := by decide +kernel
theorem dX0_timesPlus_32 : decode cX0_timesPlus 32 = .ok (.lstore_n 3, 1) := by decide +kernel
theorem dX0_timesPlus_33 : decode cX0_timesPlus 33 = .ok (.aload_n 0, 1) := by decide +kernel
theorem dX0_timesPlus_34 : decode cX0_timesPlus 34 = .ok (.getfield 9, 3) := by decide +kernel
theorem dX0_timesPlus_37 : decode cX0_timesPlus 37 = .ok (.iload 5, 2) := by decide +kernel
theorem dX0_timesPlus_39 : decode cX0_timesPlus 39 = .ok (.lload_n 3, 1) := by decide +kernel
theorem dX0_timesPlus_40 : decode cX0_timesPlus 40 = .ok (.l2i, 1) := by decide +kernel
theorem dX0_timesPlus_41 : decode cX0_timesPlus 41 = .ok (.iastore, 1) := by decide +kernel
theorem dX0_timesPlus_42 : decode cX0_timesPlus 42 = .ok (.lload_n 3, 1) := by decide +kernel
theorem dX0_timesPlus_43 : decode cX0_timesPlus 43 = .ok (.bipush 32, 2) := by decide +kernel
theorem dX0_timesPlus_45 : decode cX0_timesPlus 45 = .ok (.lushr, 1) := by decide +kernel
theorem dX0_timesPlus_46 : decode cX0_timesPlus 46 = .ok (.lstore_n 3, 1) := by decide +kernel
theorem dX0_timesPlus_47 : decode cX0_timesPlus 47 = .ok (.iinc 5 1, 3) := by decide +kernel
theorem dX0_timesPlus_50 : decode cX0_timesPlus 50 = .ok (.goto (-44), 3) := by decide +kernel
theorem dX0_timesPlus_53 : decode cX0_timesPlus 53 = .ok (.aload_n 0, 1) := by decide +kernel
theorem dX0_timesPlus_54 : decode cX0_timesPlus 54 = .ok (.lload_n 3, 1) := by decide +kernel
theorem dX0_timesPlus_55 : decode cX0_timesPlus 55 = .ok (.invokevirtual 41, 3) := by decide +kernel
theorem dX0_timesPlus_58 : decode cX0_timesPlus 58 = .ok (.return_, 1) := by decide +kernel
abbrev r_X0_timesPlus : Room := { frames := 1, cells := 0, slots := 0, locals := 22 }
abbrev m_X0_timesPlus : xMd := (cX0_timesPlus, RX0, 6, none, false, r_X0_timesPlus)
def b_X0_timesPlus_0 (Q : xQ) (K6 : xK) : xK := x_iload 2 <| x_i2l <| x_lstore 3 <| x_c (.int 0) <| x_istore 5 <| K6
def b_X0_timesPlus_6 (Q : xQ) (K6 : xK) : xK := x_iload 5 <| x_aload 0 <| x_get 1 1 <| x_icmp_ge (x_aload 0 <| x_lload 3 <| x_callv 1 C_X0_push 2 0 0 <| x_vret Q) <| x_lload 3 <| x_iload 1 <| x_i2l <| x_aload 0 <| x_get 1 0 <| x_iload 5 <| x_iald <| x_i2l <| x_c (.long 4294967295) <| x_land <| x_lmul <| x_ladd <| x_lstore 3 <| x_aload 0 <| x_get 1 0 <| x_iload 5 <| x_lload 3 <| x_l2i <| x_iast <| x_lload 3 <| x_c (.int 32) <| x_lushr <| x_lstore 3 <| x_iinc 5 1 <| K6
theorem s_X0_timesPlus_0 (G : xG) (l : Launch) (Q : xQ) (K6 : xK) (h6 : xW G l m_X0_timesPlus xX0 (xPm G Q r_X0_timesPlus) 6 K6) : xW G l m_X0_timesPlus xX0 (xPm G Q r_X0_timesPlus) 0 (b_X0_timesPlus_0 Q K6) := xo_iload_n (pc := 0) (i := 2) dX0_timesPlus_0 rfl <| xo_i2l (pc := 1) dX0_timesPlus_1 <| xo_lstore_n (pc := 2) (i := 3) dX0_timesPlus_2 rfl (by decide) <| xo_iconst (pc := 3) dX0_timesPlus_3 (by decide) <| xo_istore (pc := 4) (i := 5) dX0_timesPlus_4 (by decide) <| h6
theorem s_X0_timesPlus_6 (G : xG) (l : Launch) (Q : xQ) (K6 : xK) (h6 : xW G l m_X0_timesPlus xX0 (xPm G Q r_X0_timesPlus) 6 K6) : xW G l m_X0_timesPlus xX0 (xPm G Q r_X0_timesPlus) 6 (b_X0_timesPlus_6 Q K6) := xo_iload (pc := 6) (i := 5) dX0_timesPlus_6 <| xo_aload_n (pc := 8) (i := 0) dX0_timesPlus_8 rfl <| xo_get (pc := 9) (ci := 1) (i := 1) rfl ok1 (by decide) dX0_timesPlus_9 kw77 <| xo_icmp_ge (pc := 12) (tgt := 53) dX0_timesPlus_12 (by decide) (xo_aload_n (pc := 53) (i := 0) dX0_timesPlus_53 rfl <| xo_lload_n (pc := 54) (i := 3) dX0_timesPlus_54 rfl <| xo_callV (pc := 55) (np := 1) (ci := 1) rfl (cM_X0_push G l) dX0_timesPlus_55 kw535 kw532 kw534 ks13 kw6 (by decide +kernel) (by decide) <| xo_vret (pc := 58) rfl dX0_timesPlus_58) <| xo_lload_n (pc := 15) (i := 3) dX0_timesPlus_15 rfl <| xo_iload_n (pc := 16) (i := 1) dX0_timesPlus_16 rfl <| xo_i2l (pc := 17) dX0_timesPlus_17 <| xo_aload_n (pc := 18) (i := 0) dX0_timesPlus_18 rfl <| xo_get (pc := 19) (ci := 1) (i := 0) rfl ok1 (by decide) dX0_timesPlus_19 kw76 <| xo_iload (pc := 22) (i := 5) dX0_timesPlus_22 <| xo_iald (pc := 24) dX0_timesPlus_24 <| xo_i2l (pc := 25) dX0_timesPlus_25 <| xo_ldc2_w (pc := 26) dX0_timesPlus_26 kw531 <| xo_land (pc := 29) dX0_timesPlus_29 <| xo_lmul (pc := 30) dX0_timesPlus_30 <| xo_ladd (pc := 31) dX0_timesPlus_31 <| xo_lstore_n (pc := 32) (i := 3) dX0_timesPlus_32 rfl (by decide) <| xo_aload_n (pc := 33) (i := 0) dX0_timesPlus_33 rfl <| xo_get (pc := 34) (ci := 1) (i := 0) rfl ok1 (by decide) dX0_timesPlus_34 kw76 <| xo_iload (pc := 37) (i := 5) dX0_timesPlus_37 <| xo_lload_n (pc := 39) (i := 3) dX0_timesPlus_39 rfl <| xo_l2i (pc := 40) dX0_timesPlus_40 <| xo_iast (pc := 41) dX0_timesPlus_41 <| xo_lload_n (pc := 42) (i := 3) dX0_timesPlus_42 rfl <| xo_bipush (pc := 43) dX0_timesPlus_43 (by decide) <| xo_lushr (pc := 45) dX0_timesPlus_45 <| xo_lstore_n (pc := 46) (i := 3) dX0_timesPlus_46 rfl (by decide) <| xo_iinc (pc := 47) dX0_timesPlus_47 (by decide) <| xo_goto (pc := 50) (tgt := 6) dX0_timesPlus_50 (by decide) <| h6

theorem dX0_becomeDifference_0 : decode cX0_becomeDifference 0 = .ok (.aload_n 1, 1) := by decide +kernel
theorem dX0_becomeDifference_1 : decode cX0_becomeDifference 1 = .ok (.getfield 13, 3) := by decide +kernel
theorem dX0_becomeDifference_4 : decode cX0_becomeDifference 4 = .ok (.istore_n 3, 1) := by decide +kernel
theorem dX0_becomeDifference_5 : decode cX0_becomeDifference 5 = .ok (.lconst 0, 1) := by decide +kernel
theorem dX0_becomeDifference_6 : decode cX0_becomeDifference 6 = .ok (.lstore 4, 2) := by decide +kernel
theorem dX0_becomeDifference_8 : decode cX0_becomeDifference 8 = .ok (.iconst 0, 1) := by decide +kernel
theorem dX0_becomeDifference_9 : decode cX0_becomeDifference 9 = .ok (.istore 6, 2) := by decide +kernel
theorem dX0_becomeDifference_11 : decode cX0_becomeDifference 11 = .ok (.iload 6, 2) := by decide +kernel
theorem dX0_becomeDifference_13 : decode cX0_becomeDifference 13 = .ok (.iload_n 3, 1) := by decide +kernel
theorem dX0_becomeDifference_14 : decode cX0_becomeDifference 14 = .ok (.if_icmp .ge 44, 3) := by decide +kernel
theorem dX0_becomeDifference_17 : decode cX0_becomeDifference 17 = .ok (.lload 4, 2) := by decide +kernel
theorem dX0_becomeDifference_19 : decode cX0_becomeDifference 19 = .ok (.aload_n 1, 1) := by decide +kernel
theorem dX0_becomeDifference_20 : decode cX0_becomeDifference 20 = .ok (.iload 6, 2) := by decide +kernel
theorem dX0_becomeDifference_22 : decode cX0_becomeDifference 22 = .ok (.invokevirtual 31, 3) := by decide +kernel
theorem dX0_becomeDifference_25 : decode cX0_becomeDifference 25 = .ok (.aload_n 2, 1) := by decide +kernel
theorem dX0_becomeDifference_26 : decode cX0_becomeDifference 26 = .ok (.iload 6, 2) := by decide +kernel
theorem dX0_becomeDifference_28 : decode cX0_becomeDifference 28 = .ok (.invokevirtual 31, 3) := by decide +kernel
theorem dX0_becomeDifference_31 : decode cX0_becomeDifference 31 = .ok (.lsub, 1) := by decide +kernel
theorem dX0_becomeDifference_32 : decode cX0_becomeDifference 32 = .ok (.ladd, 1) := by decide +kernel
theorem dX0_becomeDifference_33 : decode cX0_becomeDifference 33 = .ok (.lstore 4, 2) := by decide +kernel
theorem dX0_becomeDifference_35 : decode cX0_becomeDifference 35 = .ok (.aload_n 0, 1) := by decide +kernel
theorem dX0_becomeDifference_36 : decode cX0_becomeDifference 36 = .ok (.getfield 9, 3) := by decide +kernel
theorem dX0_becomeDifference_39 : decode cX0_becomeDifference 39 = .ok (.iload 6, 2) := by decide +kernel
theorem dX0_becomeDifference_41 : decode cX0_becomeDifference 41 = .ok (.lload 4, 2) := by decide +kernel
theorem dX0_becomeDifference_43 : decode cX0_becomeDifference 43 = .ok (.l2i, 1) := by decide +kernel
theorem dX0_becomeDifference_44 : decode cX0_becomeDifference 44 = .ok (.iastore, 1) := by decide +kernel
theorem dX0_becomeDifference_45 : decode cX0_becomeDifference 45 = .ok (.lload 4, 2) := by decide +kernel
theorem dX0_becomeDifference_47 : decode cX0_becomeDifference 47 = .ok (.bipush 32, 2) := by decide +kernel
theorem dX0_becomeDifference_49 : decode cX0_becomeDifference 49 = .ok (.lshr, 1) := by decide +kernel
theorem dX0_becomeDifference_50 : decode cX0_becomeDifference 50 = .ok (.lstore 4, 2) := by decide +kernel
theorem dX0_becomeDifference_52 : decode cX0_becomeDifference 52 = .ok (.iinc 6 1, 3) := by decide +kernel
theorem dX0_becomeDifference_55 : decode cX0_becomeDifference 55 = .ok (.goto (-44), 3) := by decide +kernel
theorem dX0_becomeDifference_58 : decode cX0_becomeDifference 58 = .ok (.aload_n 0, 1) := by decide +kernel
theorem dX0_becomeDifference_59 : decode cX0_becomeDifference 59 = .ok (.iload_n 3, 1) := by decide +kernel
theorem dX0_becomeDifference_60 : decode cX0_becomeDifference 60 = .ok (.putfield 13, 3) := by decide +kernel
theorem dX0_becomeDifference_63 : decode cX0_becomeDifference 63 = .ok (.aload_n 0, 1) := by decide +kernel
theorem dX0_becomeDifference_64 : decode cX0_becomeDifference 64 = .ok (.invokevirtual 45, 3) := by decide +kernel
theorem dX0_becomeDifference_67 : decode cX0_becomeDifference 67 = .ok (.return_, 1) := by decide +kernel
abbrev r_X0_becomeDifference : Room := { frames := 1, cells := 0, slots := 0, locals := 21 }
abbrev m_X0_becomeDifference : xMd := (cX0_becomeDifference, RX0, 7, none, false, r_X0_becomeDifference)
def b_X0_becomeDifference_0 (Q : xQ) (K11 : xK) : xK := x_aload 1 <| x_get 1 1 <| x_istore 3 <| x_c (.long 0) <| x_lstore 4 <| x_c (.int 0) <| x_istore 6 <| K11
def b_X0_becomeDifference_11 (Q : xQ) (K11 : xK) : xK := x_iload 6 <| x_iload 3 <| x_icmp_ge (x_aload 0 <| x_iload 3 <| x_put 1 1 .int <| x_aload 0 <| x_callv 1 C_X0_trim 1 0 0 <| x_vret Q) <| x_lload 4 <| x_aload 1 <| x_iload 6 <| x_callv 1 C_X0_digit 2 0 0 <| x_aload 2 <| x_iload 6 <| x_callv 1 C_X0_digit 2 0 0 <| x_lsub <| x_ladd <| x_lstore 4 <| x_aload 0 <| x_get 1 0 <| x_iload 6 <| x_lload 4 <| x_l2i <| x_iast <| x_lload 4 <| x_c (.int 32) <| x_lshr <| x_lstore 4 <| x_iinc 6 1 <| K11
theorem s_X0_becomeDifference_0 (G : xG) (l : Launch) (Q : xQ) (K11 : xK) (h11 : xW G l m_X0_becomeDifference xX0 (xPm G Q r_X0_becomeDifference) 11 K11) : xW G l m_X0_becomeDifference xX0 (xPm G Q r_X0_becomeDifference) 0 (b_X0_becomeDifference_0 Q K11) := xo_aload_n (pc := 0) (i := 1) dX0_becomeDifference_0 rfl <| xo_get (pc := 1) (ci := 1) (i := 1) rfl ok1 (by decide) dX0_becomeDifference_1 kw77 <| xo_istore_n (pc := 4) (i := 3) dX0_becomeDifference_4 rfl (by decide) <| xo_lconst (pc := 5) dX0_becomeDifference_5 (by decide) <| xo_lstore (pc := 6) (i := 4) dX0_becomeDifference_6 (by decide) <| xo_iconst (pc := 8) dX0_becomeDifference_8 (by decide) <| xo_istore (pc := 9) (i := 6) dX0_becomeDifference_9 (by decide) <| h11
theorem s_X0_becomeDifference_11 (G : xG) (l : Launch) (Q : xQ) (K11 : xK) (h11 : xW G l m_X0_becomeDifference xX0 (xPm G Q r_X0_becomeDifference) 11 K11) : xW G l m_X0_becomeDifference xX0 (xPm G Q r_X0_becomeDifference) 11 (b_X0_becomeDifference_11 Q K11) := xo_iload (pc := 11) (i := 6) dX0_becomeDifference_11 <| xo_iload_n (pc := 13) (i := 3) dX0_becomeDifference_13 rfl <| xo_icmp_ge (pc := 14) (tgt := 58) dX0_becomeDifference_14 (by decide) (xo_aload_n (pc := 58) (i := 0) dX0_becomeDifference_58 rfl <| xo_iload_n (pc := 59) (i := 3) dX0_becomeDifference_59 rfl <| xo_put (pc := 60) (ci := 1) (i := 1) rfl ok1 (by decide) rfl rfl dX0_becomeDifference_60 kw77 <| xo_aload_n (pc := 63) (i := 0) dX0_becomeDifference_63 rfl <| xo_callV (pc := 64) (np := 0) (ci := 1) rfl (cM_X0_trim G l) dX0_becomeDifference_64 kw591 kw588 kw590 ks17 kw6 (by decide +kernel) (by decide) <| xo_vret (pc := 67) rfl dX0_becomeDifference_67) <| xo_lload (pc := 17) (i := 4) dX0_becomeDifference_17 <| xo_aload_n (pc := 19) (i := 1) dX0_becomeDifference_19 rfl <| xo_iload (pc := 20) (i := 6) dX0_becomeDifference_20 <| xo_callV (pc := 22) (np := 1) (ci := 1) rfl (cM_X0_digit G l) dX0_becomeDifference_22 kw587 kw584 kw585 kw586 kw6 (by decide +kernel) (by decide) <| xo_aload_n (pc := 25) (i := 2) dX0_becomeDifference_25 rfl <| xo_iload (pc := 26) (i := 6) dX0_becomeDifference_26 <| xo_callV (pc := 28) (np := 1) (ci := 1) rfl (cM_X0_digit G l) dX0_becomeDifference_28 kw587 kw584 kw585 kw586 kw6 (by decide +kernel) (by decide) <| xo_lsub (pc := 31) dX0_becomeDifference_31 <| xo_ladd (pc := 32) dX0_becomeDifference_32 <| xo_lstore (pc := 33) (i := 4) dX0_becomeDifference_33 (by decide) <| xo_aload_n (pc := 35) (i := 0) dX0_becomeDifference_35 rfl <| xo_get (pc := 36) (ci := 1) (i := 0) rfl ok1 (by decide) dX0_becomeDifference_36 kw76 <| xo_iload (pc := 39) (i := 6) dX0_becomeDifference_39 <| xo_lload (pc := 41) (i := 4) dX0_becomeDifference_41 <| xo_l2i (pc := 43) dX0_becomeDifference_43 <| xo_iast (pc := 44) dX0_becomeDifference_44 <| xo_lload (pc := 45) (i := 4) dX0_becomeDifference_45 <| xo_bipush (pc := 47) dX0_becomeDifference_47 (by decide) <| xo_lshr (pc := 49) dX0_becomeDifference_49 <| xo_lstore (pc := 50) (i := 4) dX0_becomeDifference_50 (by decide) <| xo_iinc (pc := 52) dX0_becomeDifference_52 (by decide) <| xo_goto (pc := 55) (tgt := 11) dX0_becomeDifference_55 (by decide) <| h11

theorem dX0_halve_0 : decode cX0_halve 0 = .ok (.iconst 0, 1) := by decide +kernel
theorem dX0_halve_1 : decode cX0_halve 1 = .ok (.istore_n 1, 1) := by decide +kernel
theorem dX0_halve_2 : decode cX0_halve 2 = .ok (.iload_n 1, 1) := by decide +kernel
theorem dX0_halve_3 : decode cX0_halve 3 = .ok (.aload_n 0, 1) := by decide +kernel
theorem dX0_halve_4 : decode cX0_halve 4 = .ok (.getfield 13, 3) := by decide +kernel
theorem dX0_halve_7 : decode cX0_halve 7 = .ok (.if_icmp .ge 34, 3) := by decide +kernel
theorem dX0_halve_10 : decode cX0_halve 10 = .ok (.aload_n 0, 1) := by decide +kernel
theorem dX0_halve_11 : decode cX0_halve 11 = .ok (.getfield 9, 3) := by decide +kernel
theorem dX0_halve_14 : decode cX0_halve 14 = .ok (.iload_n 1, 1) := by decide +kernel
theorem dX0_halve_15 : decode cX0_halve 15 = .ok (.aload_n 0, 1) := by decide +kernel
theorem dX0_halve_16 : decode cX0_halve 16 = .ok (.iload_n 1, 1) := by decide +kernel
theorem dX0_halve_17 : decode cX0_halve 17 = .ok (.invokevirtual 31, 3) := by decide +kernel
theorem dX0_halve_20 : decode cX0_halve 20 = .ok (.iconst 1, 1) := by decide +kernel
theorem dX0_halve_21 : decode cX0_halve 21 = .ok (.lushr, 1) := by decide +kernel
theorem dX0_halve_22 : decode cX0_halve 22 = .ok (.aload_n 0, 1) := by decide +kernel
theorem dX0_halve_23 : decode cX0_halve 23 = .ok (.iload_n 1, 1) := by decide +kernel
theorem dX0_halve_24 : decode cX0_halve 24 = .ok (.iconst 1, 1) := by decide +kernel
theorem dX0_halve_25 : decode cX0_halve 25 = .ok (.iadd, 1) := by decide +kernel
theorem dX0_halve_26 : decode cX0_halve 26 = .ok (.invokevirtual 31, 3) := by decide +kernel
theorem dX0_halve_29 : decode cX0_halve 29 = .ok (.bipush 31, 2) := by decide +kernel
theorem dX0_halve_31 : decode cX0_halve 31 = .ok (.lshl, 1) := by decide +kernel
theorem dX0_halve_32 : decode cX0_halve 32 = .ok (.lor, 1) := by decide +kernel
theorem dX0_halve_33 : decode cX0_halve 33 = .ok (.l2i, 1) := by decide +kernel
theorem dX0_halve_34 : decode cX0_halve 34 = .ok (.iastore, 1) := by decide +kernel
theorem dX0_halve_35 : decode cX0_halve 35 = .ok (.iinc 1 1, 3) := by decide +kernel
theorem dX0_halve_38 : decode cX0_halve 38 = .ok (.goto (-36), 3) := by decide +kernel
theorem dX0_halve_41 : decode cX0_halve 41 = .ok (.aload_n 0, 1) := by decide +kernel
theorem dX0_halve_42 : decode cX0_halve 42 = .ok (.invokevirtual 45, 3) := by decide +kernel
theorem dX0_halve_45 : decode cX0_halve 45 = .ok (.return_, 1) := by decide +kernel
abbrev r_X0_halve : Room := { frames := 1, cells := 0, slots := 0, locals := 21 }
abbrev m_X0_halve : xMd := (cX0_halve, RX0, 2, none, false, r_X0_halve)
def b_X0_halve_0 (Q : xQ) (K2 : xK) : xK := x_c (.int 0) <| x_istore 1 <| K2
def b_X0_halve_2 (Q : xQ) (K2 : xK) : xK := x_iload 1 <| x_aload 0 <| x_get 1 1 <| x_icmp_ge (x_aload 0 <| x_callv 1 C_X0_trim 1 0 0 <| x_vret Q) <| x_aload 0 <| x_get 1 0 <| x_iload 1 <| x_aload 0 <| x_iload 1 <| x_callv 1 C_X0_digit 2 0 0 <| x_c (.int 1) <| x_lushr <| x_aload 0 <| x_iload 1 <| x_c (.int 1) <| x_iadd <| x_callv 1 C_X0_digit 2 0 0 <| x_c (.int 31) <| x_lshl <| x_lor <| x_l2i <| x_iast <| x_iinc 1 1 <| K2
theorem s_X0_halve_0 (G : xG) (l : Launch) (Q : xQ) (K2 : xK) (h2 : xW G l m_X0_halve xX0 (xPm G Q r_X0_halve) 2 K2) : xW G l m_X0_halve xX0 (xPm G Q r_X0_halve) 0 (b_X0_halve_0 Q K2) := xo_iconst (pc := 0) dX0_halve_0 (by decide) <| xo_istore_n (pc := 1) (i := 1) dX0_halve_1 rfl (by decide) <| h2
theorem s_X0_halve_2 (G : xG) (l : Launch) (Q : xQ) (K2 : xK) (h2 : xW G l m_X0_halve xX0 (xPm G Q r_X0_halve) 2 K2) : xW G l m_X0_halve xX0 (xPm G Q r_X0_halve) 2 (b_X0_halve_2 Q K2) := xo_iload_n (pc := 2) (i := 1) dX0_halve_2 rfl <| xo_aload_n (pc := 3) (i := 0) dX0_halve_3 rfl <| xo_get (pc := 4) (ci := 1) (i := 1) rfl ok1 (by decide) dX0_halve_4 kw77 <| xo_icmp_ge (pc := 7) (tgt := 41) dX0_halve_7 (by decide) (xo_aload_n (pc := 41) (i := 0) dX0_halve_41 rfl <| xo_callV (pc := 42) (np := 0) (ci := 1) rfl (cM_X0_trim G l) dX0_halve_42 kw591 kw588 kw590 ks17 kw6 (by decide +kernel) (by decide) <| xo_vret (pc := 45) rfl dX0_halve_45) <| xo_aload_n (pc := 10) (i := 0) dX0_halve_10 rfl <| xo_get (pc := 11) (ci := 1) (i := 0) rfl ok1 (by decide) dX0_halve_11 kw76 <| xo_iload_n (pc := 14) (i := 1) dX0_halve_14 rfl <| xo_aload_n (pc := 15) (i := 0) dX0_halve_15 rfl <| xo_iload_n (pc := 16) (i := 1) dX0_halve_16 rfl <| xo_callV (pc := 17) (np := 1) (ci := 1) rfl (cM_X0_digit G l) dX0_halve_17 kw587 kw584 kw585 kw586 kw6 (by decide +kernel) (by decide) <| xo_iconst (pc := 20) dX0_halve_20 (by decide) <| xo_lushr (pc := 21) dX0_halve_21 <| xo_aload_n (pc := 22) (i := 0) dX0_halve_22 rfl <| xo_iload_n (pc := 23) (i := 1) dX0_halve_23 rfl <| xo_iconst (pc := 24) dX0_halve_24 (by decide) <| xo_iadd (pc := 25) dX0_halve_25 <| xo_callV (pc := 26) (np := 1) (ci := 1) rfl (cM_X0_digit G l) dX0_halve_26 kw587 kw584 kw585 kw586 kw6 (by decide +kernel) (by decide) <| xo_bipush (pc := 29) dX0_halve_29 (by decide) <| xo_lshl (pc := 31) dX0_halve_31 <| xo_lor (pc := 32) dX0_halve_32 <| xo_l2i (pc := 33) dX0_halve_33 <| xo_iast (pc := 34) dX0_halve_34 <| xo_iinc (pc := 35) dX0_halve_35 (by decide) <| xo_goto (pc := 38) (tgt := 2) dX0_halve_38 (by decide) <| h2

theorem dX0_from_0 : decode cX0_from 0 = .ok (.iload_n 1, 1) := by decide +kernel
theorem dX0_from_1 : decode cX0_from 1 = .ok (.iconst 5, 1) := by decide +kernel
theorem dX0_from_2 : decode cX0_from 2 = .ok (.ishr, 1) := by decide +kernel
theorem dX0_from_3 : decode cX0_from 3 = .ok (.istore_n 2, 1) := by decide +kernel
theorem dX0_from_4 : decode cX0_from 4 = .ok (.iload_n 1, 1) := by decide +kernel
theorem dX0_from_5 : decode cX0_from 5 = .ok (.bipush 31, 2) := by decide +kernel
theorem dX0_from_7 : decode cX0_from 7 = .ok (.iand, 1) := by decide +kernel
theorem dX0_from_8 : decode cX0_from 8 = .ok (.istore_n 3, 1) := by decide +kernel
theorem dX0_from_9 : decode cX0_from 9 = .ok (.aload_n 0, 1) := by decide +kernel
theorem dX0_from_10 : decode cX0_from 10 = .ok (.iload_n 2, 1) := by decide +kernel
theorem dX0_from_11 : decode cX0_from 11 = .ok (.invokevirtual 31, 3) := by decide +kernel
theorem dX0_from_14 : decode cX0_from 14 = .ok (.aload_n 0, 1) := by decide +kernel
theorem dX0_from_15 : decode cX0_from 15 = .ok (.iload_n 2, 1) := by decide +kernel
theorem dX0_from_16 : decode cX0_from 16 = .ok (.iconst 1, 1) := by decide +kernel
theorem dX0_from_17 : decode cX0_from 17 = .ok (.iadd, 1) := by decide +kernel
theorem dX0_from_18 : decode cX0_from 18 = .ok (.invokevirtual 31, 3) := by decide +kernel
theorem dX0_from_21 : decode cX0_from 21 = .ok (.bipush 32, 2) := by decide +kernel
theorem dX0_from_23 : decode cX0_from 23 = .ok (.lshl, 1) := by decide +kernel
theorem dX0_from_24 : decode cX0_from 24 = .ok (.lor, 1) := by decide +kernel
theorem dX0_from_25 : decode cX0_from 25 = .ok (.lstore 4, 2) := by decide +kernel
theorem dX0_from_27 : decode cX0_from 27 = .ok (.iload_n 3, 1) := by decide +kernel
theorem dX0_from_28 : decode cX0_from 28 = .ok (.ifCond .ne 8, 3) := by decide +kernel
theorem dX0_from_31 : decode cX0_from 31 = .ok (.lload 4, 2) := by decide +kernel
theorem dX0_from_33 : decode cX0_from 33 = .ok (.goto 20, 3) := by decide +kernel
theorem dX0_from_36 : decode cX0_from 36 = .ok (.lload 4, 2) := by decide +kernel
theorem dX0_from_38 : decode cX0_from 38 = .ok (.iload_n 3, 1) := by decide +kernel
theorem dX0_from_39 : decode cX0_from 39 = .ok (.lushr, 1) := by decide +kernel
theorem dX0_from_40 : decode cX0_from 40 = .ok (.aload_n 0, 1) := by decide +kernel
theorem dX0_from_41 : decode cX0_from 41 = .ok (.iload_n 2, 1) := by decide +kernel
theorem dX0_from_42 : decode cX0_from 42 = .ok (.iconst 2, 1) := by decide +kernel
theorem dX0_from_43 : decode cX0_from 43 = .ok (.iadd, 1) := by decide +kernel
theorem dX0_from_44 : decode cX0_from 44 = .ok (.invokevirtual 31, 3) := by decide +kernel
theorem dX0_from_47 : decode cX0_from 47 = .ok (.bipush 64, 2) := by decide +kernel
theorem dX0_from_49 : decode cX0_from 49 = .ok (.iload_n 3, 1) := by decide +kernel
theorem dX0_from_50 : decode cX0_from 50 = .ok (.isub, 1) := by decide +kernel
theorem dX0_from_51 : decode cX0_from 51 = .ok (.lshl, 1) := by decide +kernel
theorem dX0_from_52 : decode cX0_from 52 = .ok (.lor, 1) := by decide +kernel
theorem dX0_from_53 : decode cX0_from 53 = .ok (.lreturn, 1) := by decide +kernel
abbrev r_X0_from : Room := { frames := 1, cells := 0, slots := 0, locals := 21 }
abbrev m_X0_from : xMd := (cX0_from, RX0, 6, (some FieldType.long), false, r_X0_from)
def b_X0_from_53 (Q : xQ) : xK := x_lret Q
def b_X0_from_0 (Q : xQ) : xK := x_iload 1 <| x_c (.int 5) <| x_ishr <| x_istore 2 <| x_iload 1 <| x_c (.int 31) <| x_iand <| x_istore 3 <| x_aload 0 <| x_iload 2 <| x_callv 1 C_X0_digit 2 0 0 <| x_aload 0 <| x_iload 2 <| x_c (.int 1) <| x_iadd <| x_callv 1 C_X0_digit 2 0 0 <| x_c (.int 32) <| x_lshl <| x_lor <| x_lstore 4 <| x_iload 3 <| x_if_ne (x_lload 4 <| x_iload 3 <| x_lushr <| x_aload 0 <| x_iload 2 <| x_c (.int 2) <| x_iadd <| x_callv 1 C_X0_digit 2 0 0 <| x_c (.int 64) <| x_iload 3 <| x_isub <| x_lshl <| x_lor <| (b_X0_from_53 Q)) <| x_lload 4 <| (b_X0_from_53 Q)
theorem s_X0_from_53 (G : xG) (l : Launch) (Q : xQ) : xW G l m_X0_from xX0 (xPm G Q r_X0_from) 53 (b_X0_from_53 Q) := xo_lret (pc := 53) rfl dX0_from_53
theorem s_X0_from_0 (G : xG) (l : Launch) (Q : xQ) : xW G l m_X0_from xX0 (xPm G Q r_X0_from) 0 (b_X0_from_0 Q) := xo_iload_n (pc := 0) (i := 1) dX0_from_0 rfl <| xo_iconst (pc := 1) dX0_from_1 (by decide) <| xo_ishr (pc := 2) dX0_from_2 <| xo_istore_n (pc := 3) (i := 2) dX0_from_3 rfl (by decide) <| xo_iload_n (pc := 4) (i := 1) dX0_from_4 rfl <| xo_bipush (pc := 5) dX0_from_5 (by decide) <| xo_iand (pc := 7) dX0_from_7 <| xo_istore_n (pc := 8) (i := 3) dX0_from_8 rfl (by decide) <| xo_aload_n (pc := 9) (i := 0) dX0_from_9 rfl <| xo_iload_n (pc := 10) (i := 2) dX0_from_10 rfl <| xo_callV (pc := 11) (np := 1) (ci := 1) rfl (cM_X0_digit G l) dX0_from_11 kw587 kw584 kw585 kw586 kw6 (by decide +kernel) (by decide) <| xo_aload_n (pc := 14) (i := 0) dX0_from_14 rfl <| xo_iload_n (pc := 15) (i := 2) dX0_from_15 rfl <| xo_iconst (pc := 16) dX0_from_16 (by decide) <| xo_iadd (pc := 17) dX0_from_17 <| xo_callV (pc := 18) (np := 1) (ci := 1) rfl (cM_X0_digit G l) dX0_from_18 kw587 kw584 kw585 kw586 kw6 (by decide +kernel) (by decide) <| xo_bipush (pc := 21) dX0_from_21 (by decide) <| xo_lshl (pc := 23) dX0_from_23 <| xo_lor (pc := 24) dX0_from_24 <| xo_lstore (pc := 25) (i := 4) dX0_from_25 (by decide) <| xo_iload_n (pc := 27) (i := 3) dX0_from_27 rfl <| xo_if_ne (pc := 28) (tgt := 36) dX0_from_28 (by decide) (xo_lload (pc := 36) (i := 4) dX0_from_36 <| xo_iload_n (pc := 38) (i := 3) dX0_from_38 rfl <| xo_lushr (pc := 39) dX0_from_39 <| xo_aload_n (pc := 40) (i := 0) dX0_from_40 rfl <| xo_iload_n (pc := 41) (i := 2) dX0_from_41 rfl <| xo_iconst (pc := 42) dX0_from_42 (by decide) <| xo_iadd (pc := 43) dX0_from_43 <| xo_callV (pc := 44) (np := 1) (ci := 1) rfl (cM_X0_digit G l) dX0_from_44 kw587 kw584 kw585 kw586 kw6 (by decide +kernel) (by decide) <| xo_bipush (pc := 47) dX0_from_47 (by decide) <| xo_iload_n (pc := 49) (i := 3) dX0_from_49 rfl <| xo_isub (pc := 50) dX0_from_50 <| xo_lshl (pc := 51) dX0_from_51 <| xo_lor (pc := 52) dX0_from_52 <| (s_X0_from_53 G l Q)) <| xo_lload (pc := 31) (i := 4) dX0_from_31 <| xo_goto (pc := 33) (tgt := 53) dX0_from_33 (by decide) <| (s_X0_from_53 G l Q)

theorem dX0_anyBelow_0 : decode cX0_anyBelow 0 = .ok (.iload_n 1, 1) := by decide +kernel
theorem dX0_anyBelow_1 : decode cX0_anyBelow 1 = .ok (.iconst 5, 1) := by decide +kernel
theorem dX0_anyBelow_2 : decode cX0_anyBelow 2 = .ok (.ishr, 1) := by decide +kernel
theorem dX0_anyBelow_3 : decode cX0_anyBelow 3 = .ok (.aload_n 0, 1) := by decide +kernel
theorem dX0_anyBelow_4 : decode cX0_anyBelow 4 = .ok (.getfield 13, 3) := by decide +kernel
theorem dX0_anyBelow_7 : decode cX0_anyBelow 7 = .ok (.invokestatic 48, 3) := by decide +kernel
theorem dX0_anyBelow_10 : decode cX0_anyBelow 10 = .ok (.istore_n 2, 1) := by decide +kernel
theorem dX0_anyBelow_11 : decode cX0_anyBelow 11 = .ok (.iconst 0, 1) := by decide +kernel
theorem dX0_anyBelow_12 : decode cX0_anyBelow 12 = .ok (.istore_n 3, 1) := by decide +kernel
theorem dX0_anyBelow_13 : decode cX0_anyBelow 13 = .ok (.iload_n 3, 1) := by decide +kernel
theorem dX0_anyBelow_14 : decode cX0_anyBelow 14 = .ok (.iload_n 2, 1) := by decide +kernel
theorem dX0_anyBelow_15 : decode cX0_anyBelow 15 = .ok (.if_icmp .ge 20, 3) := by decide +kernel
theorem dX0_anyBelow_18 : decode cX0_anyBelow 18 = .ok (.aload_n 0, 1) := by decide +kernel
theorem dX0_anyBelow_19 : decode cX0_anyBelow 19 = .ok (.getfield 9, 3) := by decide +kernel
theorem dX0_anyBelow_22 : decode cX0_anyBelow 22 = .ok (.iload_n 3, 1) := by decide +kernel
theorem dX0_anyBelow_23 : decode cX0_anyBelow 23 = .ok (.iaload, 1) := by decide +kernel
theorem dX0_anyBelow_24 : decode cX0_anyBelow 24 = .ok (.ifCond .eq 5, 3) := by decide +kernel
theorem dX0_anyBelow_27 : decode cX0_anyBelow 27 = .ok (.iconst 1, 1) := by decide +kernel
theorem dX0_anyBelow_28 : decode cX0_anyBelow 28 = .ok (.ireturn, 1) := by decide +kernel
theorem dX0_anyBelow_29 : decode cX0_anyBelow 29 = .ok (.iinc 3 1, 3) := by decide +kernel
theorem dX0_anyBelow_32 : decode cX0_anyBelow 32 = .ok (.goto (-19), 3) := by decide +kernel
theorem dX0_anyBelow_35 : decode cX0_anyBelow 35 = .ok (.aload_n 0, 1) := by decide +kernel
theorem dX0_anyBelow_36 : decode cX0_anyBelow 36 = .ok (.iload_n 2, 1) := by decide +kernel
theorem dX0_anyBelow_37 : decode cX0_anyBelow 37 = .ok (.invokevirtual 31, 3) := by decide +kernel
theorem dX0_anyBelow_40 : decode cX0_anyBelow 40 = .ok (.lconst 1, 1) := by decide +kernel
theorem dX0_anyBelow_41 : decode cX0_anyBelow 41 = .ok (.iload_n 1, 1) := by decide +kernel
theorem dX0_anyBelow_42 : decode cX0_anyBelow 42 = .ok (.bipush 31, 2) := by decide +kernel
theorem dX0_anyBelow_44 : decode cX0_anyBelow 44 = .ok (.iand, 1) := by decide +kernel
theorem dX0_anyBelow_45 : decode cX0_anyBelow 45 = .ok (.lshl, 1) := by decide +kernel
theorem dX0_anyBelow_46 : decode cX0_anyBelow 46 = .ok (.lconst 1, 1) := by decide +kernel
theorem dX0_anyBelow_47 : decode cX0_anyBelow 47 = .ok (.lsub, 1) := by decide +kernel
theorem dX0_anyBelow_48 : decode cX0_anyBelow 48 = .ok (.land, 1) := by decide +kernel
theorem dX0_anyBelow_49 : decode cX0_anyBelow 49 = .ok (.lconst 0, 1) := by decide +kernel
theorem dX0_anyBelow_50 : decode cX0_anyBelow 50 = .ok (.lcmp, 1) := by decide +kernel
theorem dX0_anyBelow_51 : decode cX0_anyBelow 51 = .ok (.ifCond .eq 7, 3) := by decide +kernel
theorem dX0_anyBelow_54 : decode cX0_anyBelow 54 = .ok (.iconst 1, 1) := by decide +kernel
theorem dX0_anyBelow_55 : decode cX0_anyBelow 55 = .ok (.goto 4, 3) := by decide +kernel
theorem dX0_anyBelow_58 : decode cX0_anyBelow 58 = .ok (.iconst 0, 1) := by decide +kernel
theorem dX0_anyBelow_59 : decode cX0_anyBelow 59 = .ok (.ireturn, 1) := by decide +kernel
abbrev r_X0_anyBelow : Room := { frames := 1, cells := 0, slots := 0, locals := 21 }
abbrev m_X0_anyBelow : xMd := (cX0_anyBelow, RX0, 4, (some FieldType.boolean), false, r_X0_anyBelow)
def b_X0_anyBelow_0 (Q : xQ) (K13 : xK) : xK := x_iload 1 <| x_c (.int 5) <| x_ishr <| x_aload 0 <| x_get 1 1 <| x_mmin <| x_istore 2 <| x_c (.int 0) <| x_istore 3 <| K13
def b_X0_anyBelow_59 (Q : xQ) (K13 : xK) : xK := x_zret FieldType.boolean Q
def b_X0_anyBelow_13 (Q : xQ) (K13 : xK) : xK := x_iload 3 <| x_iload 2 <| x_icmp_ge (x_aload 0 <| x_iload 2 <| x_callv 1 C_X0_digit 2 0 0 <| x_c (.long 1) <| x_iload 1 <| x_c (.int 31) <| x_iand <| x_lshl <| x_c (.long 1) <| x_lsub <| x_land <| x_c (.long 0) <| x_lcmp <| x_if_eq (x_c (.int 0) <| (b_X0_anyBelow_59 Q K13)) <| x_c (.int 1) <| (b_X0_anyBelow_59 Q K13)) <| x_aload 0 <| x_get 1 0 <| x_iload 3 <| x_iald <| x_if_eq (x_iinc 3 1 <| K13) <| x_c (.int 1) <| x_zret FieldType.boolean Q
theorem s_X0_anyBelow_0 (G : xG) (l : Launch) (Q : xQ) (K13 : xK) (h13 : xW G l m_X0_anyBelow xX0 (xPm G Q r_X0_anyBelow) 13 K13) : xW G l m_X0_anyBelow xX0 (xPm G Q r_X0_anyBelow) 0 (b_X0_anyBelow_0 Q K13) := xo_iload_n (pc := 0) (i := 1) dX0_anyBelow_0 rfl <| xo_iconst (pc := 1) dX0_anyBelow_1 (by decide) <| xo_ishr (pc := 2) dX0_anyBelow_2 <| xo_aload_n (pc := 3) (i := 0) dX0_anyBelow_3 rfl <| xo_get (pc := 4) (ci := 1) (i := 1) rfl ok1 (by decide) dX0_anyBelow_4 kw77 <| xo_mmin (pc := 7) dX0_anyBelow_7 kw632 kw331 kw17 kw332 (by decide) <| xo_istore_n (pc := 10) (i := 2) dX0_anyBelow_10 rfl (by decide) <| xo_iconst (pc := 11) dX0_anyBelow_11 (by decide) <| xo_istore_n (pc := 12) (i := 3) dX0_anyBelow_12 rfl (by decide) <| h13
theorem s_X0_anyBelow_59 (G : xG) (l : Launch) (Q : xQ) (K13 : xK) (h13 : xW G l m_X0_anyBelow xX0 (xPm G Q r_X0_anyBelow) 13 K13) : xW G l m_X0_anyBelow xX0 (xPm G Q r_X0_anyBelow) 59 (b_X0_anyBelow_59 Q K13) := xo_zret (pc := 59) rfl dX0_anyBelow_59
theorem s_X0_anyBelow_13 (G : xG) (l : Launch) (Q : xQ) (K13 : xK) (h13 : xW G l m_X0_anyBelow xX0 (xPm G Q r_X0_anyBelow) 13 K13) : xW G l m_X0_anyBelow xX0 (xPm G Q r_X0_anyBelow) 13 (b_X0_anyBelow_13 Q K13) := xo_iload_n (pc := 13) (i := 3) dX0_anyBelow_13 rfl <| xo_iload_n (pc := 14) (i := 2) dX0_anyBelow_14 rfl <| xo_icmp_ge (pc := 15) (tgt := 35) dX0_anyBelow_15 (by decide) (xo_aload_n (pc := 35) (i := 0) dX0_anyBelow_35 rfl <| xo_iload_n (pc := 36) (i := 2) dX0_anyBelow_36 rfl <| xo_callV (pc := 37) (np := 1) (ci := 1) rfl (cM_X0_digit G l) dX0_anyBelow_37 kw587 kw584 kw585 kw586 kw6 (by decide +kernel) (by decide) <| xo_lconst (pc := 40) dX0_anyBelow_40 (by decide) <| xo_iload_n (pc := 41) (i := 1) dX0_anyBelow_41 rfl <| xo_bipush (pc := 42) dX0_anyBelow_42 (by decide) <| xo_iand (pc := 44) dX0_anyBelow_44 <| xo_lshl (pc := 45) dX0_anyBelow_45 <| xo_lconst (pc := 46) dX0_anyBelow_46 (by decide) <| xo_lsub (pc := 47) dX0_anyBelow_47 <| xo_land (pc := 48) dX0_anyBelow_48 <| xo_lconst (pc := 49) dX0_anyBelow_49 (by decide) <| xo_lcmp (pc := 50) dX0_anyBelow_50 <| xo_if_eq (pc := 51) (tgt := 58) dX0_anyBelow_51 (by decide) (xo_iconst (pc := 58) dX0_anyBelow_58 (by decide) <| (s_X0_anyBelow_59 G l Q K13 h13)) <| xo_iconst (pc := 54) dX0_anyBelow_54 (by decide) <| xo_goto (pc := 55) (tgt := 59) dX0_anyBelow_55 (by decide) <| (s_X0_anyBelow_59 G l Q K13 h13)) <| xo_aload_n (pc := 18) (i := 0) dX0_anyBelow_18 rfl <| xo_get (pc := 19) (ci := 1) (i := 0) rfl ok1 (by decide) dX0_anyBelow_19 kw76 <| xo_iload_n (pc := 22) (i := 3) dX0_anyBelow_22 rfl <| xo_iald (pc := 23) dX0_anyBelow_23 <| xo_if_eq (pc := 24) (tgt := 29) dX0_anyBelow_24 (by decide) (xo_iinc (pc := 29) dX0_anyBelow_29 (by decide) <| xo_goto (pc := 32) (tgt := 13) dX0_anyBelow_32 (by decide) <| h13) <| xo_iconst (pc := 27) dX0_anyBelow_27 (by decide) <| xo_zret (pc := 28) rfl dX0_anyBelow_28

theorem dX0_shiftLeft_0 : decode cX0_shiftLeft 0 = .ok (.iload_n 1, 1) := by decide +kernel
theorem dX0_shiftLeft_1 : decode cX0_shiftLeft 1 = .ok (.iconst 5, 1) := by decide +kernel
theorem dX0_shiftLeft_2 : decode cX0_shiftLeft 2 = .ok (.ishr, 1) := by decide +kernel
theorem dX0_shiftLeft_3 : decode cX0_shiftLeft 3 = .ok (.istore_n 2, 1) := by decide +kernel
theorem dX0_shiftLeft_4 : decode cX0_shiftLeft 4 = .ok (.iload_n 1, 1) := by decide +kernel
theorem dX0_shiftLeft_5 : decode cX0_shiftLeft 5 = .ok (.bipush 31, 2) := by decide +kernel
theorem dX0_shiftLeft_7 : decode cX0_shiftLeft 7 = .ok (.iand, 1) := by decide +kernel
theorem dX0_shiftLeft_8 : decode cX0_shiftLeft 8 = .ok (.istore_n 3, 1) := by decide +kernel
theorem dX0_shiftLeft_9 : decode cX0_shiftLeft 9 = .ok (.iload_n 1, 1) := by decide +kernel
theorem dX0_shiftLeft_10 : decode cX0_shiftLeft 10 = .ok (.ifCond .le 22, 3) := by decide +kernel
theorem dX0_shiftLeft_13 : decode cX0_shiftLeft 13 = .ok (.aload_n 0, 1) := by decide +kernel
theorem dX0_shiftLeft_14 : decode cX0_shiftLeft 14 = .ok (.getfield 13, 3) := by decide +kernel
theorem dX0_shiftLeft_17 : decode cX0_shiftLeft 17 = .ok (.ifCond .eq 15, 3) := by decide +kernel
theorem dX0_shiftLeft_20 : decode cX0_shiftLeft 20 = .ok (.aload_n 0, 1) := by decide +kernel
theorem dX0_shiftLeft_21 : decode cX0_shiftLeft 21 = .ok (.getfield 13, 3) := by decide +kernel
theorem dX0_shiftLeft_24 : decode cX0_shiftLeft 24 = .ok (.iload_n 2, 1) := by decide +kernel
theorem dX0_shiftLeft_25 : decode cX0_shiftLeft 25 = .ok (.iadd, 1) := by decide +kernel
theorem dX0_shiftLeft_26 : decode cX0_shiftLeft 26 = .ok (.sipush 200, 3) := by decide +kernel
theorem dX0_shiftLeft_29 : decode cX0_shiftLeft 29 = .ok (.if_icmp .lt 4, 3) := by decide +kernel
theorem dX0_shiftLeft_32 : decode cX0_shiftLeft 32 = .ok (.return_, 1) := by decide +kernel
theorem dX0_shiftLeft_33 : decode cX0_shiftLeft 33 = .ok (.aload_n 0, 1) := by decide +kernel
theorem dX0_shiftLeft_34 : decode cX0_shiftLeft 34 = .ok (.getfield 13, 3) := by decide +kernel
theorem dX0_shiftLeft_37 : decode cX0_shiftLeft 37 = .ok (.istore 4, 2) := by decide +kernel
theorem dX0_shiftLeft_39 : decode cX0_shiftLeft 39 = .ok (.iload 4, 2) := by decide +kernel
theorem dX0_shiftLeft_41 : decode cX0_shiftLeft 41 = .ok (.ifCond .lt 41, 3) := by decide +kernel
theorem dX0_shiftLeft_44 : decode cX0_shiftLeft 44 = .ok (.aload_n 0, 1) := by decide +kernel
theorem dX0_shiftLeft_45 : decode cX0_shiftLeft 45 = .ok (.getfield 9, 3) := by decide +kernel
theorem dX0_shiftLeft_48 : decode cX0_shiftLeft 48 = .ok (.iload 4, 2) := by decide +kernel
theorem dX0_shiftLeft_50 : decode cX0_shiftLeft 50 = .ok (.iload_n 2, 1) := by decide +kernel
theorem dX0_shiftLeft_51 : decode cX0_shiftLeft 51 = .ok (.iadd, 1) := by decide +kernel
theorem dX0_shiftLeft_52 : decode cX0_shiftLeft 52 = .ok (.aload_n 0, 1) := by decide +kernel
theorem dX0_shiftLeft_53 : decode cX0_shiftLeft 53 = .ok (.iload 4, 2) := by decide +kernel
theorem dX0_shiftLeft_55 : decode cX0_shiftLeft 55 = .ok (.invokevirtual 31, 3) := by decide +kernel
theorem dX0_shiftLeft_58 : decode cX0_shiftLeft 58 = .ok (.iload_n 3, 1) := by decide +kernel
theorem dX0_shiftLeft_59 : decode cX0_shiftLeft 59 = .ok (.lshl, 1) := by decide +kernel
theorem dX0_shiftLeft_60 : decode cX0_shiftLeft 60 = .ok (.aload_n 0, 1) := by decide +kernel
theorem dX0_shiftLeft_61 : decode cX0_shiftLeft 61 = .ok (.iload 4, 2) := by decide +kernel
theorem dX0_shiftLeft_63 : decode cX0_shiftLeft 63 = .ok (.iconst 1, 1) := by decide +kernel
theorem dX0_shiftLeft_64 : decode cX0_shiftLeft 64 = .ok (.isub, 1) := by decide +kernel
theorem dX0_shiftLeft_65 : decode cX0_shiftLeft 65 = .ok (.invokevirtual 31, 3) := by decide +kernel
theorem dX0_shiftLeft_68 : decode cX0_shiftLeft 68 = .ok (.iload_n 3, 1) := by decide +kernel
theorem dX0_shiftLeft_69 : decode cX0_shiftLeft 69 = .ok (.lshl, 1) := by decide +kernel
theorem dX0_shiftLeft_70 : decode cX0_shiftLeft 70 = .ok (.bipush 32, 2) := by decide +kernel
theorem dX0_shiftLeft_72 : decode cX0_shiftLeft 72 = .ok (.lushr, 1) := by decide +kernel
theorem dX0_shiftLeft_73 : decode cX0_shiftLeft 73 = .ok (.lor, 1) := by decide +kernel
theorem dX0_shiftLeft_74 : decode cX0_shiftLeft 74 = .ok (.l2i, 1) := by decide +kernel
theorem dX0_shiftLeft_75 : decode cX0_shiftLeft 75 = .ok (.iastore, 1) := by decide +kernel
theorem dX0_shiftLeft_76 : decode cX0_shiftLeft 76 = .ok (.iinc 4 (-1), 3) := by decide +kernel
theorem dX0_shiftLeft_79 : decode cX0_shiftLeft 79 = .ok (.goto (-40), 3) := by decide +kernel
theorem dX0_shiftLeft_82 : decode cX0_shiftLeft 82 = .ok (.iconst 0, 1) := by decide +kernel
theorem dX0_shiftLeft_83 : decode cX0_shiftLeft 83 = .ok (.istore 4, 2) := by decide +kernel
theorem dX0_shiftLeft_85 : decode cX0_shiftLeft 85 = .ok (.iload 4, 2) := by decide +kernel
theorem dX0_shiftLeft_87 : decode cX0_shiftLeft 87 = .ok (.iload_n 2, 1) := by decide +kernel
theorem dX0_shiftLeft_88 : decode cX0_shiftLeft 88 = .ok (.if_icmp .ge 17, 3) := by decide +kernel
theorem dX0_shiftLeft_91 : decode cX0_shiftLeft 91 = .ok (.aload_n 0, 1) := by decide +kernel
theorem dX0_shiftLeft_92 : decode cX0_shiftLeft 92 = .ok (.getfield 9, 3) := by decide +kernel
theorem dX0_shiftLeft_95 : decode cX0_shiftLeft 95 = .ok (.iload 4, 2) := by decide +kernel
theorem dX0_shiftLeft_97 : decode cX0_shiftLeft 97 = .ok (.iconst 0, 1) := by decide +kernel
theorem dX0_shiftLeft_98 : decode cX0_shiftLeft 98 = .ok (.iastore, 1) := by decide +kernel
theorem dX0_shiftLeft_99 : decode cX0_shiftLeft 99 = .ok (.iinc 4 1, 3) := by decide +kernel
theorem dX0_shiftLeft_102 : decode cX0_shiftLeft 102 = .ok (.goto (-17), 3) := by decide +kernel
theorem dX0_shiftLeft_105 : decode cX0_shiftLeft 105 = .ok (.aload_n 0, 1) := by decide +kernel
theorem dX0_shiftLeft_106 : decode cX0_shiftLeft 106 = .ok (.dup, 1) := by decide +kernel
theorem dX0_shiftLeft_107 : decode cX0_shiftLeft 107 = .ok (.getfield 13, 3) := by decide +kernel
theorem dX0_shiftLeft_110 : decode cX0_shiftLeft 110 = .ok (.iload_n 2, 1) := by decide +kernel
theorem dX0_shiftLeft_111 : decode cX0_shiftLeft 111 = .ok (.iconst 1, 1) := by decide +kernel
theorem dX0_shiftLeft_112 : decode cX0_shiftLeft 112 = .ok (.iadd, 1) := by decide +kernel
theorem dX0_shiftLeft_113 : decode cX0_shiftLeft 113 = .ok (.iadd, 1) := by decide +kernel
theorem dX0_shiftLeft_114 : decode cX0_shiftLeft 114 = .ok (.putfield 13, 3) := by decide +kernel
theorem dX0_shiftLeft_117 : decode cX0_shiftLeft 117 = .ok (.aload_n 0, 1) := by decide +kernel
theorem dX0_shiftLeft_118 : decode cX0_shiftLeft 118 = .ok (.invokevirtual 45, 3) := by decide +kernel
theorem dX0_shiftLeft_121 : decode cX0_shiftLeft 121 = .ok (.return_, 1) := by decide +kernel
abbrev r_X0_shiftLeft : Room := { frames := 1, cells := 0, slots := 0, locals := 21 }
abbrev m_X0_shiftLeft : xMd := (cX0_shiftLeft, RX0, 5, none, false, r_X0_shiftLeft)
def b_X0_shiftLeft_32 (Q : xQ) (K39 : xK) (K85 : xK) : xK := x_vret Q
def b_X0_shiftLeft_39 (Q : xQ) (K39 : xK) (K85 : xK) : xK := x_iload 4 <| x_if_lt (x_c (.int 0) <| x_istore 4 <| K85) <| x_aload 0 <| x_get 1 0 <| x_iload 4 <| x_iload 2 <| x_iadd <| x_aload 0 <| x_iload 4 <| x_callv 1 C_X0_digit 2 0 0 <| x_iload 3 <| x_lshl <| x_aload 0 <| x_iload 4 <| x_c (.int 1) <| x_isub <| x_callv 1 C_X0_digit 2 0 0 <| x_iload 3 <| x_lshl <| x_c (.int 32) <| x_lushr <| x_lor <| x_l2i <| x_iast <| x_iinc 4 (-1) <| K39
def b_X0_shiftLeft_85 (Q : xQ) (K39 : xK) (K85 : xK) : xK := x_iload 4 <| x_iload 2 <| x_icmp_ge (x_aload 0 <| x_dup <| x_get 1 1 <| x_iload 2 <| x_c (.int 1) <| x_iadd <| x_iadd <| x_put 1 1 .int <| x_aload 0 <| x_callv 1 C_X0_trim 1 0 0 <| x_vret Q) <| x_aload 0 <| x_get 1 0 <| x_iload 4 <| x_c (.int 0) <| x_iast <| x_iinc 4 1 <| K85
def b_X0_shiftLeft_0 (Q : xQ) (K39 : xK) (K85 : xK) : xK := x_iload 1 <| x_c (.int 5) <| x_ishr <| x_istore 2 <| x_iload 1 <| x_c (.int 31) <| x_iand <| x_istore 3 <| x_iload 1 <| x_if_le ((b_X0_shiftLeft_32 Q K39 K85)) <| x_aload 0 <| x_get 1 1 <| x_if_eq ((b_X0_shiftLeft_32 Q K39 K85)) <| x_aload 0 <| x_get 1 1 <| x_iload 2 <| x_iadd <| x_c (.int 200) <| x_icmp_lt (x_aload 0 <| x_get 1 1 <| x_istore 4 <| K39) <| (b_X0_shiftLeft_32 Q K39 K85)
theorem s_X0_shiftLeft_32 (G : xG) (l : Launch) (Q : xQ) (K39 : xK) (K85 : xK) (h39 : xW G l m_X0_shiftLeft xX0 (xPm G Q r_X0_shiftLeft) 39 K39) (h85 : xW G l m_X0_shiftLeft xX0 (xPm G Q r_X0_shiftLeft) 85 K85) : xW G l m_X0_shiftLeft xX0 (xPm G Q r_X0_shiftLeft) 32 (b_X0_shiftLeft_32 Q K39 K85) := xo_vret (pc := 32) rfl dX0_shiftLeft_32
theorem s_X0_shiftLeft_39 (G : xG) (l : Launch) (Q : xQ) (K39 : xK) (K85 : xK) (h39 : xW G l m_X0_shiftLeft xX0 (xPm G Q r_X0_shiftLeft) 39 K39) (h85 : xW G l m_X0_shiftLeft xX0 (xPm G Q r_X0_shiftLeft) 85 K85) : xW G l m_X0_shiftLeft xX0 (xPm G Q r_X0_shiftLeft) 39 (b_X0_shiftLeft_39 Q K39 K85) := xo_iload (pc := 39) (i := 4) dX0_shiftLeft_39 <| xo_if_lt (pc := 41) (tgt := 82) dX0_shiftLeft_41 (by decide) (xo_iconst (pc := 82) dX0_shiftLeft_82 (by decide) <| xo_istore (pc := 83) (i := 4) dX0_shiftLeft_83 (by decide) <| h85) <| xo_aload_n (pc := 44) (i := 0) dX0_shiftLeft_44 rfl <| xo_get (pc := 45) (ci := 1) (i := 0) rfl ok1 (by decide) dX0_shiftLeft_45 kw76 <| xo_iload (pc := 48) (i := 4) dX0_shiftLeft_48 <| xo_iload_n (pc := 50) (i := 2) dX0_shiftLeft_50 rfl <| xo_iadd (pc := 51) dX0_shiftLeft_51 <| xo_aload_n (pc := 52) (i := 0) dX0_shiftLeft_52 rfl <| xo_iload (pc := 53) (i := 4) dX0_shiftLeft_53 <| xo_callV (pc := 55) (np := 1) (ci := 1) rfl (cM_X0_digit G l) dX0_shiftLeft_55 kw587 kw584 kw585 kw586 kw6 (by decide +kernel) (by decide) <| xo_iload_n (pc := 58) (i := 3) dX0_shiftLeft_58 rfl <| xo_lshl (pc := 59) dX0_shiftLeft_59 <| xo_aload_n (pc := 60) (i := 0) dX0_shiftLeft_60 rfl <| xo_iload (pc := 61) (i := 4) dX0_shiftLeft_61 <| xo_iconst (pc := 63) dX0_shiftLeft_63 (by decide) <| xo_isub (pc := 64) dX0_shiftLeft_64 <| xo_callV (pc := 65) (np := 1) (ci := 1) rfl (cM_X0_digit G l) dX0_shiftLeft_65 kw587 kw584 kw585 kw586 kw6 (by decide +kernel) (by decide) <| xo_iload_n (pc := 68) (i := 3) dX0_shiftLeft_68 rfl <| xo_lshl (pc := 69) dX0_shiftLeft_69 <| xo_bipush (pc := 70) dX0_shiftLeft_70 (by decide) <| xo_lushr (pc := 72) dX0_shiftLeft_72 <| xo_lor (pc := 73) dX0_shiftLeft_73 <| xo_l2i (pc := 74) dX0_shiftLeft_74 <| xo_iast (pc := 75) dX0_shiftLeft_75 <| xo_iinc (pc := 76) dX0_shiftLeft_76 (by decide) <| xo_goto (pc := 79) (tgt := 39) dX0_shiftLeft_79 (by decide) <| h39
theorem s_X0_shiftLeft_85 (G : xG) (l : Launch) (Q : xQ) (K39 : xK) (K85 : xK) (h39 : xW G l m_X0_shiftLeft xX0 (xPm G Q r_X0_shiftLeft) 39 K39) (h85 : xW G l m_X0_shiftLeft xX0 (xPm G Q r_X0_shiftLeft) 85 K85) : xW G l m_X0_shiftLeft xX0 (xPm G Q r_X0_shiftLeft) 85 (b_X0_shiftLeft_85 Q K39 K85) := xo_iload (pc := 85) (i := 4) dX0_shiftLeft_85 <| xo_iload_n (pc := 87) (i := 2) dX0_shiftLeft_87 rfl <| xo_icmp_ge (pc := 88) (tgt := 105) dX0_shiftLeft_88 (by decide) (xo_aload_n (pc := 105) (i := 0) dX0_shiftLeft_105 rfl <| xo_dup (pc := 106) dX0_shiftLeft_106 <| xo_get (pc := 107) (ci := 1) (i := 1) rfl ok1 (by decide) dX0_shiftLeft_107 kw77 <| xo_iload_n (pc := 110) (i := 2) dX0_shiftLeft_110 rfl <| xo_iconst (pc := 111) dX0_shiftLeft_111 (by decide) <| xo_iadd (pc := 112) dX0_shiftLeft_112 <| xo_iadd (pc := 113) dX0_shiftLeft_113 <| xo_put (pc := 114) (ci := 1) (i := 1) rfl ok1 (by decide) rfl rfl dX0_shiftLeft_114 kw77 <| xo_aload_n (pc := 117) (i := 0) dX0_shiftLeft_117 rfl <| xo_callV (pc := 118) (np := 0) (ci := 1) rfl (cM_X0_trim G l) dX0_shiftLeft_118 kw591 kw588 kw590 ks17 kw6 (by decide +kernel) (by decide) <| xo_vret (pc := 121) rfl dX0_shiftLeft_121) <| xo_aload_n (pc := 91) (i := 0) dX0_shiftLeft_91 rfl <| xo_get (pc := 92) (ci := 1) (i := 0) rfl ok1 (by decide) dX0_shiftLeft_92 kw76 <| xo_iload (pc := 95) (i := 4) dX0_shiftLeft_95 <| xo_iconst (pc := 97) dX0_shiftLeft_97 (by decide) <| xo_iast (pc := 98) dX0_shiftLeft_98 <| xo_iinc (pc := 99) dX0_shiftLeft_99 (by decide) <| xo_goto (pc := 102) (tgt := 85) dX0_shiftLeft_102 (by decide) <| h85
theorem s_X0_shiftLeft_0 (G : xG) (l : Launch) (Q : xQ) (K39 : xK) (K85 : xK) (h39 : xW G l m_X0_shiftLeft xX0 (xPm G Q r_X0_shiftLeft) 39 K39) (h85 : xW G l m_X0_shiftLeft xX0 (xPm G Q r_X0_shiftLeft) 85 K85) : xW G l m_X0_shiftLeft xX0 (xPm G Q r_X0_shiftLeft) 0 (b_X0_shiftLeft_0 Q K39 K85) := xo_iload_n (pc := 0) (i := 1) dX0_shiftLeft_0 rfl <| xo_iconst (pc := 1) dX0_shiftLeft_1 (by decide) <| xo_ishr (pc := 2) dX0_shiftLeft_2 <| xo_istore_n (pc := 3) (i := 2) dX0_shiftLeft_3 rfl (by decide) <| xo_iload_n (pc := 4) (i := 1) dX0_shiftLeft_4 rfl <| xo_bipush (pc := 5) dX0_shiftLeft_5 (by decide) <| xo_iand (pc := 7) dX0_shiftLeft_7 <| xo_istore_n (pc := 8) (i := 3) dX0_shiftLeft_8 rfl (by decide) <| xo_iload_n (pc := 9) (i := 1) dX0_shiftLeft_9 rfl <| xo_if_le (pc := 10) (tgt := 32) dX0_shiftLeft_10 (by decide) ((s_X0_shiftLeft_32 G l Q K39 K85 h39 h85)) <| xo_aload_n (pc := 13) (i := 0) dX0_shiftLeft_13 rfl <| xo_get (pc := 14) (ci := 1) (i := 1) rfl ok1 (by decide) dX0_shiftLeft_14 kw77 <| xo_if_eq (pc := 17) (tgt := 32) dX0_shiftLeft_17 (by decide) ((s_X0_shiftLeft_32 G l Q K39 K85 h39 h85)) <| xo_aload_n (pc := 20) (i := 0) dX0_shiftLeft_20 rfl <| xo_get (pc := 21) (ci := 1) (i := 1) rfl ok1 (by decide) dX0_shiftLeft_21 kw77 <| xo_iload_n (pc := 24) (i := 2) dX0_shiftLeft_24 rfl <| xo_iadd (pc := 25) dX0_shiftLeft_25 <| xo_sipush (pc := 26) dX0_shiftLeft_26 (by decide) <| xo_icmp_lt (pc := 29) (tgt := 33) dX0_shiftLeft_29 (by decide) (xo_aload_n (pc := 33) (i := 0) dX0_shiftLeft_33 rfl <| xo_get (pc := 34) (ci := 1) (i := 1) rfl ok1 (by decide) dX0_shiftLeft_34 kw77 <| xo_istore (pc := 37) (i := 4) dX0_shiftLeft_37 (by decide) <| h39) <| (s_X0_shiftLeft_32 G l Q K39 K85 h39 h85)

theorem dX0_becomeProduct_0 : decode cX0_becomeProduct 0 = .ok (.aload_n 1, 1) := by decide +kernel
theorem dX0_becomeProduct_1 : decode cX0_becomeProduct 1 = .ok (.getfield 13, 3) := by decide +kernel
theorem dX0_becomeProduct_4 : decode cX0_becomeProduct 4 = .ok (.aload_n 2, 1) := by decide +kernel
theorem dX0_becomeProduct_5 : decode cX0_becomeProduct 5 = .ok (.getfield 13, 3) := by decide +kernel
theorem dX0_becomeProduct_8 : decode cX0_becomeProduct 8 = .ok (.iadd, 1) := by decide +kernel
theorem dX0_becomeProduct_9 : decode cX0_becomeProduct 9 = .ok (.sipush 200, 3) := by decide +kernel
theorem dX0_becomeProduct_12 : decode cX0_becomeProduct 12 = .ok (.invokestatic 48, 3) := by decide +kernel
theorem dX0_becomeProduct_15 : decode cX0_becomeProduct 15 = .ok (.istore_n 3, 1) := by decide +kernel
theorem dX0_becomeProduct_16 : decode cX0_becomeProduct 16 = .ok (.iconst 0, 1) := by decide +kernel
theorem dX0_becomeProduct_17 : decode cX0_becomeProduct 17 = .ok (.istore 4, 2) := by decide +kernel
theorem dX0_becomeProduct_19 : decode cX0_becomeProduct 19 = .ok (.iload 4, 2) := by decide +kernel
theorem dX0_becomeProduct_21 : decode cX0_becomeProduct 21 = .ok (.iload_n 3, 1) := by decide +kernel
theorem dX0_becomeProduct_22 : decode cX0_becomeProduct 22 = .ok (.if_icmp .ge 17, 3) := by decide +kernel
theorem dX0_becomeProduct_25 : decode cX0_becomeProduct 25 = .ok (.aload_n 0, 1) := by decide +kernel
theorem dX0_becomeProduct_26 : decode cX0_becomeProduct 26 = .ok (.getfield 9, 3) := by decide +kernel
theorem dX0_becomeProduct_29 : decode cX0_becomeProduct 29 = .ok (.iload 4, 2) := by decide +kernel
theorem dX0_becomeProduct_31 : decode cX0_becomeProduct 31 = .ok (.iconst 0, 1) := by decide +kernel
theorem dX0_becomeProduct_32 : decode cX0_becomeProduct 32 = .ok (.iastore, 1) := by decide +kernel
theorem dX0_becomeProduct_33 : decode cX0_becomeProduct 33 = .ok (.iinc 4 1, 3) := by decide +kernel
theorem dX0_becomeProduct_36 : decode cX0_becomeProduct 36 = .ok (.goto (-17), 3) := by decide +kernel
theorem dX0_becomeProduct_39 : decode cX0_becomeProduct 39 = .ok (.iconst 0, 1) := by decide +kernel
theorem dX0_becomeProduct_40 : decode cX0_becomeProduct 40 = .ok (.istore 4, 2) := by decide +kernel
theorem dX0_becomeProduct_42 : decode cX0_becomeProduct 42 = .ok (.iload 4, 2) := by decide +kernel
theorem dX0_becomeProduct_44 : decode cX0_becomeProduct 44 = .ok (.aload_n 1, 1) := by decide +kernel
theorem dX0_becomeProduct_45 : decode cX0_becomeProduct 45 = .ok (.getfield 13, 3) := by decide +kernel
theorem dX0_becomeProduct_48 : decode cX0_becomeProduct 48 = .ok (.if_icmp .ge 137, 3) := by decide +kernel
theorem dX0_becomeProduct_51 : decode cX0_becomeProduct 51 = .ok (.lconst 0, 1) := by decide +kernel
theorem dX0_becomeProduct_52 : decode cX0_becomeProduct 52 = .ok (.lstore 5, 2) := by decide +kernel
theorem dX0_becomeProduct_54 : decode cX0_becomeProduct 54 = .ok (.aload_n 1, 1) := by decide +kernel
theorem dX0_becomeProduct_55 : decode cX0_becomeProduct 55 = .ok (.getfield 9, 3) := by decide +kernel
theorem dX0_becomeProduct_58 : decode cX0_becomeProduct 58 = .ok (.iload 4, 2) := by decide +kernel
theorem dX0_becomeProduct_60 : decode cX0_becomeProduct 60 = .ok (.iaload, 1) := by decide +kernel
theorem dX0_becomeProduct_61 : decode cX0_becomeProduct 61 = .ok (.i2l, 1) := by decide +kernel
theorem dX0_becomeProduct_62 : decode cX0_becomeProduct 62 = .ok (.ldc2_w 23, 3) := by decide +kernel
theorem dX0_becomeProduct_65 : decode cX0_becomeProduct 65 = .ok (.land, 1) := by decide +kernel
theorem dX0_becomeProduct_66 : decode cX0_becomeProduct 66 = .ok (.lstore 7, 2) := by decide +kernel
theorem dX0_becomeProduct_68 : decode cX0_becomeProduct 68 = .ok (.aload_n 2, 1) := by decide +kernel
theorem dX0_becomeProduct_69 : decode cX0_becomeProduct 69 = .ok (.getfield 13, 3) := by decide +kernel
theorem dX0_becomeProduct_72 : decode cX0_becomeProduct 72 = .ok (.sipush 200, 3) := by decide +kernel
theorem dX0_becomeProduct_75 : decode cX0_becomeProduct 75 = .ok (.iload 4, 2) := by decide +kernel
theorem dX0_becomeProduct_77 : decode cX0_becomeProduct 77 = .ok (.isub, 1) := by decide +kernel
theorem dX0_becomeProduct_78 : decode cX0_becomeProduct 78 = .ok (.invokestatic 48, 3) := by decide +kernel
theorem dX0_becomeProduct_81 : decode cX0_becomeProduct 81 = .ok (.istore 9, 2) := by decide +kernel
theorem dX0_becomeProduct_83 : decode cX0_becomeProduct 83 = .ok (.iconst 0, 1) := by decide +kernel
theorem dX0_becomeProduct_84 : decode cX0_becomeProduct 84 = .ok (.istore 10, 2) := by decide +kernel
theorem dX0_becomeProduct_86 : decode cX0_becomeProduct 86 = .ok (.iload 10, 2) := by decide +kernel
theorem dX0_becomeProduct_88 : decode cX0_becomeProduct 88 = .ok (.iload 9, 2) := by decide +kernel
theorem dX0_becomeProduct_90 : decode cX0_becomeProduct 90 = .ok (.if_icmp .ge 65, 3) := by decide +kernel
theorem dX0_becomeProduct_93 : decode cX0_becomeProduct 93 = .ok (.lload 5, 2) := by decide +kernel
theorem dX0_becomeProduct_95 : decode cX0_becomeProduct 95 = .ok (.lload 7, 2) := by decide +kernel
theorem dX0_becomeProduct_97 : decode cX0_becomeProduct 97 = .ok (.aload_n 2, 1) := by decide +kernel
theorem dX0_becomeProduct_98 : decode cX0_becomeProduct 98 = .ok (.getfield 9, 3) := by decide +kernel
theorem dX0_becomeProduct_101 : decode cX0_becomeProduct 101 = .ok (.iload 10, 2) := by decide +kernel
theorem dX0_becomeProduct_103 : decode cX0_becomeProduct 103 = .ok (.iaload, 1) := by decide +kernel
theorem dX0_becomeProduct_104 : decode cX0_becomeProduct 104 = .ok (.i2l, 1) := by decide +kernel
theorem dX0_becomeProduct_105 : decode cX0_becomeProduct 105 = .ok (.ldc2_w 23, 3) := by decide +kernel
theorem dX0_becomeProduct_108 : decode cX0_becomeProduct 108 = .ok (.land, 1) := by decide +kernel
theorem dX0_becomeProduct_109 : decode cX0_becomeProduct 109 = .ok (.lmul, 1) := by decide +kernel
theorem dX0_becomeProduct_110 : decode cX0_becomeProduct 110 = .ok (.aload_n 0, 1) := by decide +kernel
theorem dX0_becomeProduct_111 : decode cX0_becomeProduct 111 = .ok (.getfield 9, 3) := by decide +kernel
theorem dX0_becomeProduct_114 : decode cX0_becomeProduct 114 = .ok (.iload 4, 2) := by decide +kernel
theorem dX0_becomeProduct_116 : decode cX0_becomeProduct 116 = .ok (.iload 10, 2) := by decide +kernel
theorem dX0_becomeProduct_118 : decode cX0_becomeProduct 118 = .ok (.iadd, 1) := by decide +kernel
theorem dX0_becomeProduct_119 : decode cX0_becomeProduct 119 = .ok (.iaload, 1) := by decide +kernel
theorem dX0_becomeProduct_120 : decode cX0_becomeProduct 120 = .ok (.i2l, 1) := by decide +kernel
theorem dX0_becomeProduct_121 : decode cX0_becomeProduct 121 = .ok (.ldc2_w 23, 3) := by decide +kernel
theorem dX0_becomeProduct_124 : decode cX0_becomeProduct 124 = .ok (.land, 1) := by decide +kernel
theorem dX0_becomeProduct_125 : decode cX0_becomeProduct 125 = .ok (.ladd, 1) := by decide +kernel
theorem dX0_becomeProduct_126 : decode cX0_becomeProduct 126 = .ok (.ladd, 1) := by decide +kernel
theorem dX0_becomeProduct_127 : decode cX0_becomeProduct 127 = .ok (.lstore 5, 2) := by decide +kernel
theorem dX0_becomeProduct_129 : decode cX0_becomeProduct 129 = .ok (.aload_n 0, 1) := by decide +kernel
theorem dX0_becomeProduct_130 : decode cX0_becomeProduct 130 = .ok (.getfield 9, 3) := by decide +kernel
theorem dX0_becomeProduct_133 : decode cX0_becomeProduct 133 = .ok (.iload 4, 2) := by decide +kernel
theorem dX0_becomeProduct_135 : decode cX0_becomeProduct 135 = .ok (.iload 10, 2) := by decide +kernel
theorem dX0_becomeProduct_137 : decode cX0_becomeProduct 137 = .ok (.iadd, 1) := by decide +kernel
theorem dX0_becomeProduct_138 : decode cX0_becomeProduct 138 = .ok (.lload 5, 2) := by decide +kernel
theorem dX0_becomeProduct_140 : decode cX0_becomeProduct 140 = .ok (.l2i, 1) := by decide +kernel
theorem dX0_becomeProduct_141 : decode cX0_becomeProduct 141 = .ok (.iastore, 1) := by decide +kernel
theorem dX0_becomeProduct_142 : decode cX0_becomeProduct 142 = .ok (.lload 5, 2) := by decide +kernel
theorem dX0_becomeProduct_144 : decode cX0_becomeProduct 144 = .ok (.bipush 32, 2) := by decide +kernel
theorem dX0_becomeProduct_146 : decode cX0_becomeProduct 146 = .ok (.lushr, 1) := by decide +kernel
theorem dX0_becomeProduct_147 : decode cX0_becomeProduct 147 = .ok (.lstore 5, 2) := by decide +kernel
theorem dX0_becomeProduct_149 : decode cX0_becomeProduct 149 = .ok (.iinc 10 1, 3) := by decide +kernel
theorem dX0_becomeProduct_152 : decode cX0_becomeProduct 152 = .ok (.goto (-66), 3) := by decide +kernel
theorem dX0_becomeProduct_155 : decode cX0_becomeProduct 155 = .ok (.iload 4, 2) := by decide +kernel
theorem dX0_becomeProduct_157 : decode cX0_becomeProduct 157 = .ok (.iload 9, 2) := by decide +kernel
theorem dX0_becomeProduct_159 : decode cX0_becomeProduct 159 = .ok (.iadd, 1) := by decide +kernel
theorem dX0_becomeProduct_160 : decode cX0_becomeProduct 160 = .ok (.sipush 200, 3) := by decide +kernel
theorem dX0_becomeProduct_163 : decode cX0_becomeProduct 163 = .ok (.if_icmp .ge 16, 3) := by decide +kernel
theorem dX0_becomeProduct_166 : decode cX0_becomeProduct 166 = .ok (.aload_n 0, 1) := by decide +kernel
theorem dX0_becomeProduct_167 : decode cX0_becomeProduct 167 = .ok (.getfield 9, 3) := by decide +kernel
theorem dX0_becomeProduct_170 : decode cX0_becomeProduct 170 = .ok (.iload 4, 2) := by decide +kernel
theorem dX0_becomeProduct_172 : decode cX0_becomeProduct 172 = .ok (.iload 9, 2) := by decide +kernel
theorem dX0_becomeProduct_174 : decode cX0_becomeProduct 174 = .ok (.iadd, 1) := by decide +kernel
theorem dX0_becomeProduct_175 : decode cX0_becomeProduct 175 = .ok (.lload 5, 2) := by decide +kernel
theorem dX0_becomeProduct_177 : decode cX0_becomeProduct 177 = .ok (.l2i, 1) := by decide +kernel
theorem dX0_becomeProduct_178 : decode cX0_becomeProduct 178 = .ok (.iastore, 1) := by decide +kernel
theorem dX0_becomeProduct_179 : decode cX0_becomeProduct 179 = .ok (.iinc 4 1, 3) := by decide +kernel
theorem dX0_becomeProduct_182 : decode cX0_becomeProduct 182 = .ok (.goto (-140), 3) := by decide +kernel
theorem dX0_becomeProduct_185 : decode cX0_becomeProduct 185 = .ok (.aload_n 0, 1) := by decide +kernel
theorem dX0_becomeProduct_186 : decode cX0_becomeProduct 186 = .ok (.iload_n 3, 1) := by decide +kernel
theorem dX0_becomeProduct_187 : decode cX0_becomeProduct 187 = .ok (.putfield 13, 3) := by decide +kernel
theorem dX0_becomeProduct_190 : decode cX0_becomeProduct 190 = .ok (.aload_n 0, 1) := by decide +kernel
theorem dX0_becomeProduct_191 : decode cX0_becomeProduct 191 = .ok (.invokevirtual 45, 3) := by decide +kernel
theorem dX0_becomeProduct_194 : decode cX0_becomeProduct 194 = .ok (.return_, 1) := by decide +kernel
abbrev r_X0_becomeProduct : Room := { frames := 1, cells := 0, slots := 0, locals := 21 }
abbrev m_X0_becomeProduct : xMd := (cX0_becomeProduct, RX0, 11, none, false, r_X0_becomeProduct)
def b_X0_becomeProduct_0 (Q : xQ) (K19 : xK) (K42 : xK) (K86 : xK) : xK := x_aload 1 <| x_get 1 1 <| x_aload 2 <| x_get 1 1 <| x_iadd <| x_c (.int 200) <| x_mmin <| x_istore 3 <| x_c (.int 0) <| x_istore 4 <| K19
def b_X0_becomeProduct_19 (Q : xQ) (K19 : xK) (K42 : xK) (K86 : xK) : xK := x_iload 4 <| x_iload 3 <| x_icmp_ge (x_c (.int 0) <| x_istore 4 <| K42) <| x_aload 0 <| x_get 1 0 <| x_iload 4 <| x_c (.int 0) <| x_iast <| x_iinc 4 1 <| K19
def b_X0_becomeProduct_42 (Q : xQ) (K19 : xK) (K42 : xK) (K86 : xK) : xK := x_iload 4 <| x_aload 1 <| x_get 1 1 <| x_icmp_ge (x_aload 0 <| x_iload 3 <| x_put 1 1 .int <| x_aload 0 <| x_callv 1 C_X0_trim 1 0 0 <| x_vret Q) <| x_c (.long 0) <| x_lstore 5 <| x_aload 1 <| x_get 1 0 <| x_iload 4 <| x_iald <| x_i2l <| x_c (.long 4294967295) <| x_land <| x_lstore 7 <| x_aload 2 <| x_get 1 1 <| x_c (.int 200) <| x_iload 4 <| x_isub <| x_mmin <| x_istore 9 <| x_c (.int 0) <| x_istore 10 <| K86
def b_X0_becomeProduct_179 (Q : xQ) (K19 : xK) (K42 : xK) (K86 : xK) : xK := x_iinc 4 1 <| K42
def b_X0_becomeProduct_86 (Q : xQ) (K19 : xK) (K42 : xK) (K86 : xK) : xK := x_iload 10 <| x_iload 9 <| x_icmp_ge (x_iload 4 <| x_iload 9 <| x_iadd <| x_c (.int 200) <| x_icmp_ge ((b_X0_becomeProduct_179 Q K19 K42 K86)) <| x_aload 0 <| x_get 1 0 <| x_iload 4 <| x_iload 9 <| x_iadd <| x_lload 5 <| x_l2i <| x_iast <| (b_X0_becomeProduct_179 Q K19 K42 K86)) <| x_lload 5 <| x_lload 7 <| x_aload 2 <| x_get 1 0 <| x_iload 10 <| x_iald <| x_i2l <| x_c (.long 4294967295) <| x_land <| x_lmul <| x_aload 0 <| x_get 1 0 <| x_iload 4 <| x_iload 10 <| x_iadd <| x_iald <| x_i2l <| x_c (.long 4294967295) <| x_land <| x_ladd <| x_ladd <| x_lstore 5 <| x_aload 0 <| x_get 1 0 <| x_iload 4 <| x_iload 10 <| x_iadd <| x_lload 5 <| x_l2i <| x_iast <| x_lload 5 <| x_c (.int 32) <| x_lushr <| x_lstore 5 <| x_iinc 10 1 <| K86
theorem s_X0_becomeProduct_0 (G : xG) (l : Launch) (Q : xQ) (K19 : xK) (K42 : xK) (K86 : xK) (h19 : xW G l m_X0_becomeProduct xX0 (xPm G Q r_X0_becomeProduct) 19 K19) (h42 : xW G l m_X0_becomeProduct xX0 (xPm G Q r_X0_becomeProduct) 42 K42) (h86 : xW G l m_X0_becomeProduct xX0 (xPm G Q r_X0_becomeProduct) 86 K86) : xW G l m_X0_becomeProduct xX0 (xPm G Q r_X0_becomeProduct) 0 (b_X0_becomeProduct_0 Q K19 K42 K86) := xo_aload_n (pc := 0) (i := 1) dX0_becomeProduct_0 rfl <| xo_get (pc := 1) (ci := 1) (i := 1) rfl ok1 (by decide) dX0_becomeProduct_1 kw77 <| xo_aload_n (pc := 4) (i := 2) dX0_becomeProduct_4 rfl <| xo_get (pc := 5) (ci := 1) (i := 1) rfl ok1 (by decide) dX0_becomeProduct_5 kw77 <| xo_iadd (pc := 8) dX0_becomeProduct_8 <| xo_sipush (pc := 9) dX0_becomeProduct_9 (by decide) <| xo_mmin (pc := 12) dX0_becomeProduct_12 kw632 kw331 kw17 kw332 (by decide) <| xo_istore_n (pc := 15) (i := 3) dX0_becomeProduct_15 rfl (by decide) <| xo_iconst (pc := 16) dX0_becomeProduct_16 (by decide) <| xo_istore (pc := 17) (i := 4) dX0_becomeProduct_17 (by decide) <| h19
theorem s_X0_becomeProduct_19 (G : xG) (l : Launch) (Q : xQ) (K19 : xK) (K42 : xK) (K86 : xK) (h19 : xW G l m_X0_becomeProduct xX0 (xPm G Q r_X0_becomeProduct) 19 K19) (h42 : xW G l m_X0_becomeProduct xX0 (xPm G Q r_X0_becomeProduct) 42 K42) (h86 : xW G l m_X0_becomeProduct xX0 (xPm G Q r_X0_becomeProduct) 86 K86) : xW G l m_X0_becomeProduct xX0 (xPm G Q r_X0_becomeProduct) 19 (b_X0_becomeProduct_19 Q K19 K42 K86) := xo_iload (pc := 19) (i := 4) dX0_becomeProduct_19 <| xo_iload_n (pc := 21) (i := 3) dX0_becomeProduct_21 rfl <| xo_icmp_ge (pc := 22) (tgt := 39) dX0_becomeProduct_22 (by decide) (xo_iconst (pc := 39) dX0_becomeProduct_39 (by decide) <| xo_istore (pc := 40) (i := 4) dX0_becomeProduct_40 (by decide) <| h42) <| xo_aload_n (pc := 25) (i := 0) dX0_becomeProduct_25 rfl <| xo_get (pc := 26) (ci := 1) (i := 0) rfl ok1 (by decide) dX0_becomeProduct_26 kw76 <| xo_iload (pc := 29) (i := 4) dX0_becomeProduct_29 <| xo_iconst (pc := 31) dX0_becomeProduct_31 (by decide) <| xo_iast (pc := 32) dX0_becomeProduct_32 <| xo_iinc (pc := 33) dX0_becomeProduct_33 (by decide) <| xo_goto (pc := 36) (tgt := 19) dX0_becomeProduct_36 (by decide) <| h19
theorem s_X0_becomeProduct_42 (G : xG) (l : Launch) (Q : xQ) (K19 : xK) (K42 : xK) (K86 : xK) (h19 : xW G l m_X0_becomeProduct xX0 (xPm G Q r_X0_becomeProduct) 19 K19) (h42 : xW G l m_X0_becomeProduct xX0 (xPm G Q r_X0_becomeProduct) 42 K42) (h86 : xW G l m_X0_becomeProduct xX0 (xPm G Q r_X0_becomeProduct) 86 K86) : xW G l m_X0_becomeProduct xX0 (xPm G Q r_X0_becomeProduct) 42 (b_X0_becomeProduct_42 Q K19 K42 K86) := xo_iload (pc := 42) (i := 4) dX0_becomeProduct_42 <| xo_aload_n (pc := 44) (i := 1) dX0_becomeProduct_44 rfl <| xo_get (pc := 45) (ci := 1) (i := 1) rfl ok1 (by decide) dX0_becomeProduct_45 kw77 <| xo_icmp_ge (pc := 48) (tgt := 185) dX0_becomeProduct_48 (by decide) (xo_aload_n (pc := 185) (i := 0) dX0_becomeProduct_185 rfl <| xo_iload_n (pc := 186) (i := 3) dX0_becomeProduct_186 rfl <| xo_put (pc := 187) (ci := 1) (i := 1) rfl ok1 (by decide) rfl rfl dX0_becomeProduct_187 kw77 <| xo_aload_n (pc := 190) (i := 0) dX0_becomeProduct_190 rfl <| xo_callV (pc := 191) (np := 0) (ci := 1) rfl (cM_X0_trim G l) dX0_becomeProduct_191 kw591 kw588 kw590 ks17 kw6 (by decide +kernel) (by decide) <| xo_vret (pc := 194) rfl dX0_becomeProduct_194) <| xo_lconst (pc := 51) dX0_becomeProduct_51 (by decide) <| xo_lstore (pc := 52) (i := 5) dX0_becomeProduct_52 (by decide) <| xo_aload_n (pc := 54) (i := 1) dX0_becomeProduct_54 rfl <| xo_get (pc := 55) (ci := 1) (i := 0) rfl ok1 (by decide) dX0_becomeProduct_55 kw76 <| xo_iload (pc := 58) (i := 4) dX0_becomeProduct_58 <| xo_iald (pc := 60) dX0_becomeProduct_60 <| xo_i2l (pc := 61) dX0_becomeProduct_61 <| xo_ldc2_w (pc := 62) dX0_becomeProduct_62 kw531 <| xo_land (pc := 65) dX0_becomeProduct_65 <| xo_lstore (pc := 66) (i := 7) dX0_becomeProduct_66 (by decide) <| xo_aload_n (pc := 68) (i := 2) dX0_becomeProduct_68 rfl <| xo_get (pc := 69) (ci := 1) (i := 1) rfl ok1 (by decide) dX0_becomeProduct_69 kw77 <| xo_sipush (pc := 72) dX0_becomeProduct_72 (by decide) <| xo_iload (pc := 75) (i := 4) dX0_becomeProduct_75 <| xo_isub (pc := 77) dX0_becomeProduct_77 <| xo_mmin (pc := 78) dX0_becomeProduct_78 kw632 kw331 kw17 kw332 (by decide) <| xo_istore (pc := 81) (i := 9) dX0_becomeProduct_81 (by decide) <| xo_iconst (pc := 83) dX0_becomeProduct_83 (by decide) <| xo_istore (pc := 84) (i := 10) dX0_becomeProduct_84 (by decide) <| h86
theorem s_X0_becomeProduct_179 (G : xG) (l : Launch) (Q : xQ) (K19 : xK) (K42 : xK) (K86 : xK) (h19 : xW G l m_X0_becomeProduct xX0 (xPm G Q r_X0_becomeProduct) 19 K19) (h42 : xW G l m_X0_becomeProduct xX0 (xPm G Q r_X0_becomeProduct) 42 K42) (h86 : xW G l m_X0_becomeProduct xX0 (xPm G Q r_X0_becomeProduct) 86 K86) : xW G l m_X0_becomeProduct xX0 (xPm G Q r_X0_becomeProduct) 179 (b_X0_becomeProduct_179 Q K19 K42 K86) := xo_iinc (pc := 179) dX0_becomeProduct_179 (by decide) <| xo_goto (pc := 182) (tgt := 42) dX0_becomeProduct_182 (by decide) <| h42
theorem s_X0_becomeProduct_86 (G : xG) (l : Launch) (Q : xQ) (K19 : xK) (K42 : xK) (K86 : xK) (h19 : xW G l m_X0_becomeProduct xX0 (xPm G Q r_X0_becomeProduct) 19 K19) (h42 : xW G l m_X0_becomeProduct xX0 (xPm G Q r_X0_becomeProduct) 42 K42) (h86 : xW G l m_X0_becomeProduct xX0 (xPm G Q r_X0_becomeProduct) 86 K86) : xW G l m_X0_becomeProduct xX0 (xPm G Q r_X0_becomeProduct) 86 (b_X0_becomeProduct_86 Q K19 K42 K86) := xo_iload (pc := 86) (i := 10) dX0_becomeProduct_86 <| xo_iload (pc := 88) (i := 9) dX0_becomeProduct_88 <| xo_icmp_ge (pc := 90) (tgt := 155) dX0_becomeProduct_90 (by decide) (xo_iload (pc := 155) (i := 4) dX0_becomeProduct_155 <| xo_iload (pc := 157) (i := 9) dX0_becomeProduct_157 <| xo_iadd (pc := 159) dX0_becomeProduct_159 <| xo_sipush (pc := 160) dX0_becomeProduct_160 (by decide) <| xo_icmp_ge (pc := 163) (tgt := 179) dX0_becomeProduct_163 (by decide) ((s_X0_becomeProduct_179 G l Q K19 K42 K86 h19 h42 h86)) <| xo_aload_n (pc := 166) (i := 0) dX0_becomeProduct_166 rfl <| xo_get (pc := 167) (ci := 1) (i := 0) rfl ok1 (by decide) dX0_becomeProduct_167 kw76 <| xo_iload (pc := 170) (i := 4) dX0_becomeProduct_170 <| xo_iload (pc := 172) (i := 9) dX0_becomeProduct_172 <| xo_iadd (pc := 174) dX0_becomeProduct_174 <| xo_lload (pc := 175) (i := 5) dX0_becomeProduct_175 <| xo_l2i (pc := 177) dX0_becomeProduct_177 <| xo_iast (pc := 178) dX0_becomeProduct_178 <| (s_X0_becomeProduct_179 G l Q K19 K42 K86 h19 h42 h86)) <| xo_lload (pc := 93) (i := 5) dX0_becomeProduct_93 <| xo_lload (pc := 95) (i := 7) dX0_becomeProduct_95 <| xo_aload_n (pc := 97) (i := 2) dX0_becomeProduct_97 rfl <| xo_get (pc := 98) (ci := 1) (i := 0) rfl ok1 (by decide) dX0_becomeProduct_98 kw76 <| xo_iload (pc := 101) (i := 10) dX0_becomeProduct_101 <| xo_iald (pc := 103) dX0_becomeProduct_103 <| xo_i2l (pc := 104) dX0_becomeProduct_104 <| xo_ldc2_w (pc := 105) dX0_becomeProduct_105 kw531 <| xo_land (pc := 108) dX0_becomeProduct_108 <| xo_lmul (pc := 109) dX0_becomeProduct_109 <| xo_aload_n (pc := 110) (i := 0) dX0_becomeProduct_110 rfl <| xo_get (pc := 111) (ci := 1) (i := 0) rfl ok1 (by decide) dX0_becomeProduct_111 kw76 <| xo_iload (pc := 114) (i := 4) dX0_becomeProduct_114 <| xo_iload (pc := 116) (i := 10) dX0_becomeProduct_116 <| xo_iadd (pc := 118) dX0_becomeProduct_118 <| xo_iald (pc := 119) dX0_becomeProduct_119 <| xo_i2l (pc := 120) dX0_becomeProduct_120 <| xo_ldc2_w (pc := 121) dX0_becomeProduct_121 kw531 <| xo_land (pc := 124) dX0_becomeProduct_124 <| xo_ladd (pc := 125) dX0_becomeProduct_125 <| xo_ladd (pc := 126) dX0_becomeProduct_126 <| xo_lstore (pc := 127) (i := 5) dX0_becomeProduct_127 (by decide) <| xo_aload_n (pc := 129) (i := 0) dX0_becomeProduct_129 rfl <| xo_get (pc := 130) (ci := 1) (i := 0) rfl ok1 (by decide) dX0_becomeProduct_130 kw76 <| xo_iload (pc := 133) (i := 4) dX0_becomeProduct_133 <| xo_iload (pc := 135) (i := 10) dX0_becomeProduct_135 <| xo_iadd (pc := 137) dX0_becomeProduct_137 <| xo_lload (pc := 138) (i := 5) dX0_becomeProduct_138 <| xo_l2i (pc := 140) dX0_becomeProduct_140 <| xo_iast (pc := 141) dX0_becomeProduct_141 <| xo_lload (pc := 142) (i := 5) dX0_becomeProduct_142 <| xo_bipush (pc := 144) dX0_becomeProduct_144 (by decide) <| xo_lushr (pc := 146) dX0_becomeProduct_146 <| xo_lstore (pc := 147) (i := 5) dX0_becomeProduct_147 (by decide) <| xo_iinc (pc := 149) dX0_becomeProduct_149 (by decide) <| xo_goto (pc := 152) (tgt := 86) dX0_becomeProduct_152 (by decide) <| h86

