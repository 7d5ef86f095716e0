theorem dX0_becomeSum_0 : decode cX0_becomeSum 0 = .ok (.aload_n 1, 1) := by decide +kernel
theorem dX0_becomeSum_1 : decode cX0_becomeSum 1 = .ok (.getfield 13, 3) := by decide +kernel
theorem dX0_becomeSum_4 : decode cX0_becomeSum 4 = .ok (.aload_n 2, 1) := by decide +kernel
theorem dX0_becomeSum_5 : decode cX0_becomeSum 5 = .ok (.getfield 13, 3) := by decide +kernel
theorem dX0_becomeSum_8 : decode cX0_becomeSum 8 = .ok (.invokestatic 25, 3) := by decide +kernel
theorem dX0_becomeSum_11 : decode cX0_becomeSum 11 = .ok (.istore_n 3, 1) := by decide +kernel
theorem dX0_becomeSum_12 : decode cX0_becomeSum 12 = .ok (.lconst 0, 1) := by decide +kernel
theorem dX0_becomeSum_13 : decode cX0_becomeSum 13 = .ok (.lstore 4, 2) := by decide +kernel
theorem dX0_becomeSum_15 : decode cX0_becomeSum 15 = .ok (.iconst 0, 1) := by decide +kernel
theorem dX0_becomeSum_16 : decode cX0_becomeSum 16 = .ok (.istore 6, 2) := by decide +kernel
theorem dX0_becomeSum_18 : decode cX0_becomeSum 18 = .ok (.iload 6, 2) := by decide +kernel
theorem dX0_becomeSum_20 : decode cX0_becomeSum 20 = .ok (.iload_n 3, 1) := by decide +kernel
theorem dX0_becomeSum_21 : decode cX0_becomeSum 21 = .ok (.if_icmp .ge 44, 3) := by decide +kernel
theorem dX0_becomeSum_24 : decode cX0_becomeSum 24 = .ok (.lload 4, 2) := by decide +kernel
theorem dX0_becomeSum_26 : decode cX0_becomeSum 26 = .ok (.aload_n 1, 1) := by decide +kernel
theorem dX0_becomeSum_27 : decode cX0_becomeSum 27 = .ok (.iload 6, 2) := by decide +kernel
theorem dX0_becomeSum_29 : decode cX0_becomeSum 29 = .ok (.invokevirtual 31, 3) := by decide +kernel
theorem dX0_becomeSum_32 : decode cX0_becomeSum 32 = .ok (.aload_n 2, 1) := by decide +kernel
theorem dX0_becomeSum_33 : decode cX0_becomeSum 33 = .ok (.iload 6, 2) := by decide +kernel
theorem dX0_becomeSum_35 : decode cX0_becomeSum 35 = .ok (.invokevirtual 31, 3) := by decide +kernel
theorem dX0_becomeSum_38 : decode cX0_becomeSum 38 = .ok (.ladd, 1) := by decide +kernel
theorem dX0_becomeSum_39 : decode cX0_becomeSum 39 = .ok (.ladd, 1) := by decide +kernel
theorem dX0_becomeSum_40 : decode cX0_becomeSum 40 = .ok (.lstore 4, 2) := by decide +kernel
theorem dX0_becomeSum_42 : decode cX0_becomeSum 42 = .ok (.aload_n 0, 1) := by decide +kernel
theorem dX0_becomeSum_43 : decode cX0_becomeSum 43 = .ok (.getfield 9, 3) := by decide +kernel
theorem dX0_becomeSum_46 : decode cX0_becomeSum 46 = .ok (.iload 6, 2) := by decide +kernel
theorem dX0_becomeSum_48 : decode cX0_becomeSum 48 = .ok (.lload 4, 2) := by decide +kernel
theorem dX0_becomeSum_50 : decode cX0_becomeSum 50 = .ok (.l2i, 1) := by decide +kernel
theorem dX0_becomeSum_51 : decode cX0_becomeSum 51 = .ok (.iastore, 1) := by decide +kernel
theorem dX0_becomeSum_52 : decode cX0_becomeSum 52 = .ok (.lload 4, 2) := by decide +kernel
theorem dX0_becomeSum_54 : decode cX0_becomeSum 54 = .ok (.bipush 32, 2) := by decide +kernel
theorem dX0_becomeSum_56 : decode cX0_becomeSum 56 = .ok (.lushr, 1) := by decide +kernel
theorem dX0_becomeSum_57 : decode cX0_becomeSum 57 = .ok (.lstore 4, 2) := by decide +kernel
theorem dX0_becomeSum_59 : decode cX0_becomeSum 59 = .ok (.iinc 6 1, 3) := by decide +kernel
theorem dX0_becomeSum_62 : decode cX0_becomeSum 62 = .ok (.goto (-44), 3) := by decide +kernel
theorem dX0_becomeSum_65 : decode cX0_becomeSum 65 = .ok (.aload_n 0, 1) := by decide +kernel
theorem dX0_becomeSum_66 : decode cX0_becomeSum 66 = .ok (.iload_n 3, 1) := by decide +kernel
theorem dX0_becomeSum_67 : decode cX0_becomeSum 67 = .ok (.putfield 13, 3) := by decide +kernel
theorem dX0_becomeSum_70 : decode cX0_becomeSum 70 = .ok (.aload_n 0, 1) := by decide +kernel
theorem dX0_becomeSum_71 : decode cX0_becomeSum 71 = .ok (.lload 4, 2) := by decide +kernel
theorem dX0_becomeSum_73 : decode cX0_becomeSum 73 = .ok (.invokevirtual 41, 3) := by decide +kernel
theorem dX0_becomeSum_76 : decode cX0_becomeSum 76 = .ok (.return_, 1) := by decide +kernel
abbrev r_X0_becomeSum : Room := { frames := 1, cells := 0, slots := 0, locals := 22 }
abbrev m_X0_becomeSum : xMd := (cX0_becomeSum, RX0, 7, none, false, r_X0_becomeSum)
def b_X0_becomeSum_0 (Q : xQ) (K18 : xK) : xK := x_aload 1 <| x_get 1 1 <| x_aload 2 <| x_get 1 1 <| x_mmax <| x_istore 3 <| x_c (.long 0) <| x_lstore 4 <| x_c (.int 0) <| x_istore 6 <| K18
def b_X0_becomeSum_18 (Q : xQ) (K18 : xK) : xK := x_iload 6 <| x_iload 3 <| x_icmp_ge (x_aload 0 <| x_iload 3 <| x_put 1 1 .int <| x_aload 0 <| x_lload 4 <| x_callv 1 C_X0_push 2 0 0 <| x_vret Q) <| x_lload 4 <| x_aload 1 <| x_iload 6 <| x_callv 1 C_X0_digit 2 0 0 <| x_aload 2 <| x_iload 6 <| x_callv 1 C_X0_digit 2 0 0 <| x_ladd <| x_ladd <| x_lstore 4 <| x_aload 0 <| x_get 1 0 <| x_iload 6 <| x_lload 4 <| x_l2i <| x_iast <| x_lload 4 <| x_c (.int 32) <| x_lushr <| x_lstore 4 <| x_iinc 6 1 <| K18
theorem s_X0_becomeSum_0 (G : xG) (l : Launch) (Q : xQ) (K18 : xK) (h18 : xW G l m_X0_becomeSum xX0 (xPm G Q r_X0_becomeSum) 18 K18) : xW G l m_X0_becomeSum xX0 (xPm G Q r_X0_becomeSum) 0 (b_X0_becomeSum_0 Q K18) := xo_aload_n (pc := 0) (i := 1) dX0_becomeSum_0 rfl <| xo_get (pc := 1) (ci := 1) (i := 1) rfl ok1 (by decide) dX0_becomeSum_1 kw77 <| xo_aload_n (pc := 4) (i := 2) dX0_becomeSum_4 rfl <| xo_get (pc := 5) (ci := 1) (i := 1) rfl ok1 (by decide) dX0_becomeSum_5 kw77 <| xo_mmax (pc := 8) dX0_becomeSum_8 kw595 kw537 kw17 kw538 (by decide) <| xo_istore_n (pc := 11) (i := 3) dX0_becomeSum_11 rfl (by decide) <| xo_lconst (pc := 12) dX0_becomeSum_12 (by decide) <| xo_lstore (pc := 13) (i := 4) dX0_becomeSum_13 (by decide) <| xo_iconst (pc := 15) dX0_becomeSum_15 (by decide) <| xo_istore (pc := 16) (i := 6) dX0_becomeSum_16 (by decide) <| h18
theorem s_X0_becomeSum_18 (G : xG) (l : Launch) (Q : xQ) (K18 : xK) (h18 : xW G l m_X0_becomeSum xX0 (xPm G Q r_X0_becomeSum) 18 K18) : xW G l m_X0_becomeSum xX0 (xPm G Q r_X0_becomeSum) 18 (b_X0_becomeSum_18 Q K18) := xo_iload (pc := 18) (i := 6) dX0_becomeSum_18 <| xo_iload_n (pc := 20) (i := 3) dX0_becomeSum_20 rfl <| xo_icmp_ge (pc := 21) (tgt := 65) dX0_becomeSum_21 (by decide) (xo_aload_n (pc := 65) (i := 0) dX0_becomeSum_65 rfl <| xo_iload_n (pc := 66) (i := 3) dX0_becomeSum_66 rfl <| xo_put (pc := 67) (ci := 1) (i := 1) rfl ok1 (by decide) rfl rfl dX0_becomeSum_67 kw77 <| xo_aload_n (pc := 70) (i := 0) dX0_becomeSum_70 rfl <| xo_lload (pc := 71) (i := 4) dX0_becomeSum_71 <| xo_callV (pc := 73) (np := 1) (ci := 1) rfl (cM_X0_push G l) dX0_becomeSum_73 kw535 kw532 kw534 ks13 kw6 (by decide +kernel) (by decide) <| xo_vret (pc := 76) rfl dX0_becomeSum_76) <| xo_lload (pc := 24) (i := 4) dX0_becomeSum_24 <| xo_aload_n (pc := 26) (i := 1) dX0_becomeSum_26 rfl <| xo_iload (pc := 27) (i := 6) dX0_becomeSum_27 <| xo_callV (pc := 29) (np := 1) (ci := 1) rfl (cM_X0_digit G l) dX0_becomeSum_29 kw587 kw584 kw585 kw586 kw6 (by decide +kernel) (by decide) <| xo_aload_n (pc := 32) (i := 2) dX0_becomeSum_32 rfl <| xo_iload (pc := 33) (i := 6) dX0_becomeSum_33 <| xo_callV (pc := 35) (np := 1) (ci := 1) rfl (cM_X0_digit G l) dX0_becomeSum_35 kw587 kw584 kw585 kw586 kw6 (by decide +kernel) (by decide) <| xo_ladd (pc := 38) dX0_becomeSum_38 <| xo_ladd (pc := 39) dX0_becomeSum_39 <| xo_lstore (pc := 40) (i := 4) dX0_becomeSum_40 (by decide) <| xo_aload_n (pc := 42) (i := 0) dX0_becomeSum_42 rfl <| xo_get (pc := 43) (ci := 1) (i := 0) rfl ok1 (by decide) dX0_becomeSum_43 kw76 <| xo_iload (pc := 46) (i := 6) dX0_becomeSum_46 <| xo_lload (pc := 48) (i := 4) dX0_becomeSum_48 <| xo_l2i (pc := 50) dX0_becomeSum_50 <| xo_iast (pc := 51) dX0_becomeSum_51 <| xo_lload (pc := 52) (i := 4) dX0_becomeSum_52 <| xo_bipush (pc := 54) dX0_becomeSum_54 (by decide) <| xo_lushr (pc := 56) dX0_becomeSum_56 <| xo_lstore (pc := 57) (i := 4) dX0_becomeSum_57 (by decide) <| xo_iinc (pc := 59) dX0_becomeSum_59 (by decide) <| xo_goto (pc := 62) (tgt := 18) dX0_becomeSum_62 (by decide) <| h18

/-- the place of an operand beside the target: the same, or apart -/
def opd (a t : Nat) : Prop := a = t ∨ a + 2 ≤ t ∨ t + 2 ≤ a
def C_X0_becomeSum : xC := fun av S Q => ∃ t a b u v, av = [.ref t, .ref a, .ref b] ∧ opd a t ∧ opd b t ∧ (∃ f n, bigR S.1 t f n) ∧ bigV S.1 a u ∧ bigV S.1 b v ∧ u + v < 2 ^ 6400 ∧ ∀ h', xoff h' S.1 t (t + 2) → bigV h' t (u + v) → Q none (h', S.2)
/-- the digits of an operand from i on are those of d -/
def opI (h : xH) (a i : Nat) (d : Nat → Nat) : Prop := ∃ f n, bigR h a f n ∧ ∀ j, i ≤ j → dg f n j = d j
theorem opI.step {h : xH} {a t i : Nat} {d : Nat → Nat} {f : Nat → Int32} {n : Nat} {x : Int32} (o : opI h a i d) (p : opd a t) (r : bigR h t f n) : opI (xup h (t + 1) (.inl (0, 200, .inl (upd f i x)))) a (i + 1) d := by
  obtain ⟨g, m, r', e⟩ := o
  rcases p with rfl | p
  · have e1 : nI m = nI n := by have := r'.1.symm.trans r.1; simpa using this
    have e2 : m = n := (nI_eq (by have := r'.2.2; omega) (by have := r.2.2; omega)).mp e1
    have e3 : g = f := by have := r'.2.1.symm.trans r.2.1; simpa using this
    subst e2 e3
    refine ⟨upd g i x, m, r.wr _, fun j hj => ?_⟩
    rw [← e j (by omega)]
    unfold dg
    rw [pk_un (by omega)]
  · exact ⟨g, m, r'.off off_wr (by omega), fun j hj => e j (by omega)⟩
def cn_X0_becomeSum : Nat × Nat × Nat × Nat × Nat × Nat → List (Nat × Value) := fun v => [(0, .ref v.1), (1, .ref v.2.1), (2, .ref v.2.2.1), (3, .int (nI v.2.2.2.1)), (4, .long (lN v.2.2.2.2.1)), (6, .int (nI v.2.2.2.2.2))]
def I_X0_becomeSum (Q : xQ) : Nat → Nat × Nat × Nat × Nat × Nat × Nat → xS → Prop := fun k v S => match v with
  | (t, a, b, M, c, i) => ∃ f n d e, bigR S.1 t f n ∧ opd a t ∧ opd b t ∧ opI S.1 a i d ∧ opI S.1 b i e ∧ (∀ j, d j < 2 ^ 32) ∧ (∀ j, e j < 2 ^ 32) ∧ k + i = M ∧ M ≤ 200 ∧ c < 2 ∧ bv f i + c * 2 ^ (32 * i) = sd (2 ^ 32) d i + sd (2 ^ 32) e i ∧ sd (2 ^ 32) d M + sd (2 ^ 32) e M < 2 ^ 6400 ∧ (0 < M → 2 ^ (32 * (M - 1)) ≤ sd (2 ^ 32) d M + sd (2 ^ 32) e M) ∧ ∀ h', xoff h' S.1 t (t + 2) → bigV h' t (sd (2 ^ 32) d M + sd (2 ^ 32) e M) → Q none (h', S.2)
theorem cM_X0_becomeSum (G : xG) (l : Launch) : xM G l yX0_becomeSum cX0_becomeSum 7 none r_X0_becomeSum C_X0_becomeSum := by
  refine xM_of (fun Q => b_X0_becomeSum_0 Q (xInv cn_X0_becomeSum (I_X0_becomeSum Q))) RX0 false (fun Q => s_X0_becomeSum_0 G l Q _ (xW.lp (b_X0_becomeSum_18 Q) (fun K hK => s_X0_becomeSum_18 G l Q K hK) ?_)) (by decide) rfl (by decide) ?_
  · rintro k ⟨t, a, b, M, c, i⟩ S ⟨f, n, d, e, r, oa, ob, ia, ib, hd, he, hk, hM, hc, hv, hmax, hlow, hQ⟩
    obtain ⟨fa, na, ra, ea⟩ := id ia
    obtain ⟨fb, nb, rb, eb⟩ := id ib
    have d1 := hd i
    have d2 := he i
    have hp : 2 ^ (32 * (i + 1)) = 2 ^ 32 * 2 ^ (32 * i) := by rw [← Nat.pow_add]; congr 1; omega
    have en := nI_leI (show M < 2 ^ 31 by omega) (show i < 2 ^ 31 by omega)
    simp only [x_c, x_iload, x_lload, x_aload, x_istore, x_lstore, x_astore, x_iinc, x_iadd, x_isub, x_imul, x_iand, x_ior, x_ixor, x_ladd, x_lsub, x_lmul, x_land, x_lor, x_lxor, x_idiv, x_irem, x_ldiv, x_lrem, x_ineg, x_lneg, x_ishl, x_ishr, x_iushr, x_lshl, x_lshr, x_lushr, x_i2l, x_l2i, x_i2b, x_i2c, x_lcmp, x_if_eq, x_if_ne, x_if_lt, x_if_ge, x_if_gt, x_if_le, x_icmp_eq, x_icmp_ne, x_icmp_lt, x_icmp_ge, x_icmp_gt, x_icmp_le, x_dup, x_pop, x_dup_x1, x_dup2, x_iret, x_zret, x_lret, x_aret, x_vret, x_call, x_callv, x_calli, x_oinit, x_mmax, x_mmin, x_mabs, x_mmaxL, x_mminL, x_mabsL, lg_cmp_ge, lg_cmp_le, lg_cmp_gt, lg_cmp_lt, lg_cmp_eq, xlk, xs1, xs2, lv_args, Value.category, List.filter_cons, List.filter_nil, Nat.reduceAdd, Nat.reduceBEq, Nat.reduceEqDiff, Nat.reduceSub, Nat.sub_zero, beq_self_eq_true, Bool.not_true, Bool.not_false, Bool.and_true, Bool.and_false, Bool.true_and, Bool.false_and, reduceIte, reduceCtorEq, Bool.false_eq_true, Nat.one_ne_zero, Nat.zero_ne_one, Nat.zero_add, Option.toList_some, Option.toList_none, List.nil_append, List.cons_append, List.take_succ_cons, List.take_zero, List.take_nil, List.drop_succ_cons, List.drop_zero, List.length_cons, List.length_nil, List.reverse_cons, List.reverse_nil, List.head?_cons, List.map_cons, List.map_nil, List.sum_cons, List.sum_nil, true_and, and_true, List.getElem?_cons_zero, List.getElem?_cons_succ, Prod.eta, x_get, x_put, x_iald, x_iast, x_bald, x_bast, x_lald, x_last, x_alen, xup_s, xup_a1, xup_1a, xup_uu, nr_i, nr_l, nr_o, nr_a, ft_i, ft_l, ft_o, ft_a, Nat.reduceLT, i_cl0, i_cl1, i_n1, i_m1, List.set_cons_zero, List.set_cons_succ, Nat.reduceLeDiff, Nat.le_refl, Nat.zero_le, Nat.add_zero, b_X0_becomeSum_18, cn_X0_becomeSum, en, r.1, r.2.1]
    refine ⟨fun q => ?_, fun q => ⟨⟨a, _, rfl, ra.1⟩, a, fa, na, _, ra, rfl, ?_⟩⟩
    · obtain rfl : i = M := by omega
      have rM := r.sz (show i ≤ 200 by omega)
      refine ⟨⟨t, _, rfl, rM.1⟩, t, f, i, c, rfl, rM, by omega, fun hc0 => ?_, fun h' o' r' => hQ h' (xoff_tr o' off_sz) ?_⟩
      · have h1 : c = 1 := by omega
        subst h1
        rcases Nat.lt_or_ge i 200 with z | z
        · exact z
        · have : i = 200 := by omega
          subst this
          rw [show 32 * 200 = 6400 from rfl] at hv
          omega
      · rw [← hv]
        rcases r' with ⟨rfl, r'⟩ | ⟨h0, r'⟩
        · exact ⟨f, i, r', by omega, fun hpos => bv_norm (by have := hlow hpos; omega) hpos⟩
        · have h1 : c = 1 := by omega
          subst h1
          refine ⟨_, _, r', ?_, fun _ => ?_⟩
          · rw [bv, bv_upd_hi (Nat.le_refl i), pk_us]; rfl
          · simp only [Nat.add_sub_cancel, pk_us]; decide
    · simp only [x_c, x_iload, x_lload, x_aload, x_istore, x_lstore, x_astore, x_iinc, x_iadd, x_isub, x_imul, x_iand, x_ior, x_ixor, x_ladd, x_lsub, x_lmul, x_land, x_lor, x_lxor, x_idiv, x_irem, x_ldiv, x_lrem, x_ineg, x_lneg, x_ishl, x_ishr, x_iushr, x_lshl, x_lshr, x_lushr, x_i2l, x_l2i, x_i2b, x_i2c, x_lcmp, x_if_eq, x_if_ne, x_if_lt, x_if_ge, x_if_gt, x_if_le, x_icmp_eq, x_icmp_ne, x_icmp_lt, x_icmp_ge, x_icmp_gt, x_icmp_le, x_dup, x_pop, x_dup_x1, x_dup2, x_iret, x_zret, x_lret, x_aret, x_vret, x_call, x_callv, x_calli, x_oinit, x_mmax, x_mmin, x_mabs, x_mmaxL, x_mminL, x_mabsL, lg_cmp_ge, lg_cmp_le, lg_cmp_gt, lg_cmp_lt, lg_cmp_eq, xlk, xs1, xs2, lv_args, Value.category, List.filter_cons, List.filter_nil, Nat.reduceAdd, Nat.reduceBEq, Nat.reduceEqDiff, Nat.reduceSub, Nat.sub_zero, beq_self_eq_true, Bool.not_true, Bool.not_false, Bool.and_true, Bool.and_false, Bool.true_and, Bool.false_and, reduceIte, reduceCtorEq, Bool.false_eq_true, Nat.one_ne_zero, Nat.zero_ne_one, Nat.zero_add, Option.toList_some, Option.toList_none, List.nil_append, List.cons_append, List.take_succ_cons, List.take_zero, List.take_nil, List.drop_succ_cons, List.drop_zero, List.length_cons, List.length_nil, List.reverse_cons, List.reverse_nil, List.head?_cons, List.map_cons, List.map_nil, List.sum_cons, List.sum_nil, true_and, and_true, List.getElem?_cons_zero, List.getElem?_cons_succ, Prod.eta, x_get, x_put, x_iald, x_iast, x_bald, x_bast, x_lald, x_last, x_alen, xup_s, xup_a1, xup_1a, xup_uu, nr_i, nr_l, nr_o, nr_a, ft_i, ft_l, ft_o, ft_a, Nat.reduceLT, i_cl0, i_cl1, i_n1, i_m1, List.set_cons_zero, List.set_cons_succ, Nat.reduceLeDiff, Nat.le_refl, Nat.zero_le, Nat.add_zero]
      refine ⟨⟨b, _, rfl, rb.1⟩, b, fb, nb, _, rb, rfl, ?_⟩
      simp only [x_c, x_iload, x_lload, x_aload, x_istore, x_lstore, x_astore, x_iinc, x_iadd, x_isub, x_imul, x_iand, x_ior, x_ixor, x_ladd, x_lsub, x_lmul, x_land, x_lor, x_lxor, x_idiv, x_irem, x_ldiv, x_lrem, x_ineg, x_lneg, x_ishl, x_ishr, x_iushr, x_lshl, x_lshr, x_lushr, x_i2l, x_l2i, x_i2b, x_i2c, x_lcmp, x_if_eq, x_if_ne, x_if_lt, x_if_ge, x_if_gt, x_if_le, x_icmp_eq, x_icmp_ne, x_icmp_lt, x_icmp_ge, x_icmp_gt, x_icmp_le, x_dup, x_pop, x_dup_x1, x_dup2, x_iret, x_zret, x_lret, x_aret, x_vret, x_call, x_callv, x_calli, x_oinit, x_mmax, x_mmin, x_mabs, x_mmaxL, x_mminL, x_mabsL, lg_cmp_ge, lg_cmp_le, lg_cmp_gt, lg_cmp_lt, lg_cmp_eq, xlk, xs1, xs2, lv_args, Value.category, List.filter_cons, List.filter_nil, Nat.reduceAdd, Nat.reduceBEq, Nat.reduceEqDiff, Nat.reduceSub, Nat.sub_zero, beq_self_eq_true, Bool.not_true, Bool.not_false, Bool.and_true, Bool.and_false, Bool.true_and, Bool.false_and, reduceIte, reduceCtorEq, Bool.false_eq_true, Nat.one_ne_zero, Nat.zero_ne_one, Nat.zero_add, Option.toList_some, Option.toList_none, List.nil_append, List.cons_append, List.take_succ_cons, List.take_zero, List.take_nil, List.drop_succ_cons, List.drop_zero, List.length_cons, List.length_nil, List.reverse_cons, List.reverse_nil, List.head?_cons, List.map_cons, List.map_nil, List.sum_cons, List.sum_nil, true_and, and_true, List.getElem?_cons_zero, List.getElem?_cons_succ, Prod.eta, x_get, x_put, x_iald, x_iast, x_bald, x_bast, x_lald, x_last, x_alen, xup_s, xup_a1, xup_1a, xup_uu, nr_i, nr_l, nr_o, nr_a, ft_i, ft_l, ft_o, ft_a, Nat.reduceLT, i_cl0, i_cl1, i_n1, i_m1, List.set_cons_zero, List.set_cons_succ, Nat.reduceLeDiff, Nat.le_refl, Nat.zero_le, Nat.add_zero, r.1, r.2.1]
      rw [dgt_nI fa na (by omega), dgt_nI fb nb (by omega), ea i (Nat.le_refl i), eb i (Nat.le_refl i), lN_add, lN_add, lN_l2i, lN_ush32 (by omega), nI_clamp (by omega)]
      refine ⟨vp_in_nI (by omega) (by decide), xInvL.mk (k - 1) (t, a, b, M, (c + (d i + e i)) / 2 ^ 32, i + 1) (by omega) ⟨rfl, rfl, rfl, rfl, rfl, rfl, trivial⟩ ⟨_, n, d, e, r.wr _, oa, ob, ia.step oa r, ib.step ob r, hd, he, by omega, hM, by omega, ?_, hmax, hlow, fun h' o' r' => hQ h' (xoff_tr o' off_wr) r'⟩⟩
      rw [bv, bv_upd_hi (Nat.le_refl i), pk_us, wn_nI, sd, sd, hp, ← Nat.pow_mul]
      generalize 2 ^ (32 * i) = E at *
      generalize hz : c + (d i + e i) = z at *
      have h1 := Nat.div_add_mod z (2 ^ 32)
      have h2 : z * E = (2 ^ 32 * (z / 2 ^ 32) + z % 2 ^ 32) * E := by rw [h1]
      rw [Nat.add_mul] at h2
      have h3 : z / 2 ^ 32 * (2 ^ 32 * E) = 2 ^ 32 * (z / 2 ^ 32) * E := by ac_rfl
      rw [h3]
      have h4 : z * E = c * E + (d i * E + e i * E) := by rw [← hz, Nat.add_mul, Nat.add_mul]
      omega
  · rintro av S Q ⟨t, a, b, u, v, rfl, oa, ob, ⟨f, n, r⟩, ⟨fa, na, ra, rfl, za⟩, ⟨fb, nb, rb, rfl, zb⟩, hm, hQ⟩
    refine ⟨Nat.le_of_ble_eq_true rfl, ?_⟩
    have h1 := ra.2.2
    have h2 := rb.2.2
    have e : (if nI na < nI nb then nI nb else nI na) = nI (max na nb) := by
      simp only [nI_ltI (show na < 2 ^ 31 by omega) (show nb < 2 ^ 31 by omega)]
      split
      · rw [show max na nb = nb by omega]
      · rw [show max na nb = na by omega]
    simp only [x_c, x_iload, x_lload, x_aload, x_istore, x_lstore, x_astore, x_iinc, x_iadd, x_isub, x_imul, x_iand, x_ior, x_ixor, x_ladd, x_lsub, x_lmul, x_land, x_lor, x_lxor, x_idiv, x_irem, x_ldiv, x_lrem, x_ineg, x_lneg, x_ishl, x_ishr, x_iushr, x_lshl, x_lshr, x_lushr, x_i2l, x_l2i, x_i2b, x_i2c, x_lcmp, x_if_eq, x_if_ne, x_if_lt, x_if_ge, x_if_gt, x_if_le, x_icmp_eq, x_icmp_ne, x_icmp_lt, x_icmp_ge, x_icmp_gt, x_icmp_le, x_dup, x_pop, x_dup_x1, x_dup2, x_iret, x_zret, x_lret, x_aret, x_vret, x_call, x_callv, x_calli, x_oinit, x_mmax, x_mmin, x_mabs, x_mmaxL, x_mminL, x_mabsL, lg_cmp_ge, lg_cmp_le, lg_cmp_gt, lg_cmp_lt, lg_cmp_eq, xlk, xs1, xs2, lv_args, Value.category, List.filter_cons, List.filter_nil, Nat.reduceAdd, Nat.reduceBEq, Nat.reduceEqDiff, Nat.reduceSub, Nat.sub_zero, beq_self_eq_true, Bool.not_true, Bool.not_false, Bool.and_true, Bool.and_false, Bool.true_and, Bool.false_and, reduceIte, reduceCtorEq, Bool.false_eq_true, Nat.one_ne_zero, Nat.zero_ne_one, Nat.zero_add, Option.toList_some, Option.toList_none, List.nil_append, List.cons_append, List.take_succ_cons, List.take_zero, List.take_nil, List.drop_succ_cons, List.drop_zero, List.length_cons, List.length_nil, List.reverse_cons, List.reverse_nil, List.head?_cons, List.map_cons, List.map_nil, List.sum_cons, List.sum_nil, true_and, and_true, List.getElem?_cons_zero, List.getElem?_cons_succ, Prod.eta, x_get, x_put, x_iald, x_iast, x_bald, x_bast, x_lald, x_last, x_alen, xup_s, xup_a1, xup_1a, xup_uu, nr_i, nr_l, nr_o, nr_a, ft_i, ft_l, ft_o, ft_a, Nat.reduceLT, i_cl0, i_cl1, i_n1, i_m1, List.set_cons_zero, List.set_cons_succ, Nat.reduceLeDiff, Nat.le_refl, Nat.zero_le, Nat.add_zero, b_X0_becomeSum_0, ra.1, rb.1, e]
    have cA := bv_dg (f := fa) (Nat.le_max_left na nb)
    have cB := bv_dg (f := fb) (Nat.le_max_right na nb)
    rw [cA, cB] at hm hQ
    refine xInv.mk (max na nb) (t, a, b, max na nb, 0, 0) ⟨rfl, rfl, rfl, rfl, rfl, rfl, trivial⟩ ⟨f, n, dg fa na, dg fb nb, r, oa, ob, ⟨fa, na, ra, fun _ _ => rfl⟩, ⟨fb, nb, rb, fun _ _ => rfl⟩, dg_lt fa na, dg_lt fb nb, rfl, by omega, by omega, rfl, hm, fun hpos => ?_, hQ⟩
    rw [← cA, ← cB]
    rcases Nat.le_total na nb with z | z
    · rw [show max na nb = nb by omega] at hpos ⊢
      have := bv_top hpos (zb hpos)
      omega
    · rw [show max na nb = na by omega] at hpos ⊢
      have := bv_top hpos (za hpos)
      omega
