theorem dX0_timesPlus_0 : decode cX0_timesPlus 0 = .ok (.iload_n 2, 1) := by decide +kernel
theorem dX0_timesPlus_1 : decode cX0_timesPlus 1 = .ok (.i2l, 1) := by decide +kernel
theorem dX0_timesPlus_2 : decode cX0_timesPlus 2 = .ok (.lstore_n 3, 1) := by decide +kernel
theorem dX0_timesPlus_3 : decode cX0_timesPlus 3 = .ok (.iconst 0, 1) := by decide +kernel
theorem dX0_timesPlus_4 : decode cX0_timesPlus 4 = .ok (.istore 5, 2) := by decide +kernel
theorem dX0_timesPlus_6 : decode cX0_timesPlus 6 = .ok (.iload 5, 2) := by decide +kernel
theorem dX0_timesPlus_8 : decode cX0_timesPlus 8 = .ok (.aload_n 0, 1) := by decide +kernel
theorem dX0_timesPlus_9 : decode cX0_timesPlus 9 = .ok (.getfield 13, 3) := by decide +kernel
theorem dX0_timesPlus_12 : decode cX0_timesPlus 12 = .ok (.if_icmp .ge 41, 3) := by decide +kernel
theorem dX0_timesPlus_15 : decode cX0_timesPlus 15 = .ok (.lload_n 3, 1) := by decide +kernel
theorem dX0_timesPlus_16 : decode cX0_timesPlus 16 = .ok (.iload_n 1, 1) := by decide +kernel
theorem dX0_timesPlus_17 : decode cX0_timesPlus 17 = .ok (.i2l, 1) := by decide +kernel
theorem dX0_timesPlus_18 : decode cX0_timesPlus 18 = .ok (.aload_n 0, 1) := by decide +kernel
theorem dX0_timesPlus_19 : decode cX0_timesPlus 19 = .ok (.getfield 9, 3) := by decide +kernel
theorem dX0_timesPlus_22 : decode cX0_timesPlus 22 = .ok (.iload 5, 2) := by decide +kernel
theorem dX0_timesPlus_24 : decode cX0_timesPlus 24 = .ok (.iaload, 1) := by decide +kernel
theorem dX0_timesPlus_25 : decode cX0_timesPlus 25 = .ok (.i2l, 1) := by decide +kernel
theorem dX0_timesPlus_26 : decode cX0_timesPlus 26 = .ok (.ldc2_w 23, 3) := by decide +kernel
theorem dX0_timesPlus_29 : decode cX0_timesPlus 29 = .ok (.land, 1) := by decide +kernel
theorem dX0_timesPlus_30 : decode cX0_timesPlus 30 = .ok (.lmul, 1) := by decide +kernel
theorem dX0_timesPlus_31 : decode cX0_timesPlus 31 = .ok (.ladd, 1) := by decide +kernel
theorem dX0_timesPlus_32 : decode cX0_timesPlus 32 = .ok (.lstore_n 3, 1) := by decide +kernel
theorem dX0_timesPlus_33 : decode cX0_timesPlus 33 = .ok (.aload_n 0, 1) := by decide +kernel
theorem dX0_timesPlus_34 : decode cX0_timesPlus 34 = .ok (.getfield 9, 3) := by decide +kernel
theorem dX0_timesPlus_37 : decode cX0_timesPlus 37 = .ok (.iload 5, 2) := by decide +kernel
theorem dX0_timesPlus_39 : decode cX0_timesPlus 39 = .ok (.lload_n 3, 1) := by decide +kernel
theorem dX0_timesPlus_40 : decode cX0_timesPlus 40 = .ok (.l2i, 1) := by decide +kernel
theorem dX0_timesPlus_41 : decode cX0_timesPlus 41 = .ok (.iastore, 1) := by decide +kernel
theorem dX0_timesPlus_42 : decode cX0_timesPlus 42 = .ok (.lload_n 3, 1) := by decide +kernel
theorem dX0_timesPlus_43 : decode cX0_timesPlus 43 = .ok (.bipush 32, 2) := by decide +kernel
theorem dX0_timesPlus_45 : decode cX0_timesPlus 45 = .ok (.lushr, 1) := by decide +kernel
theorem dX0_timesPlus_46 : decode cX0_timesPlus 46 = .ok (.lstore_n 3, 1) := by decide +kernel
theorem dX0_timesPlus_47 : decode cX0_timesPlus 47 = .ok (.iinc 5 1, 3) := by decide +kernel
theorem dX0_timesPlus_50 : decode cX0_timesPlus 50 = .ok (.goto (-44), 3) := by decide +kernel
theorem dX0_timesPlus_53 : decode cX0_timesPlus 53 = .ok (.aload_n 0, 1) := by decide +kernel
theorem dX0_timesPlus_54 : decode cX0_timesPlus 54 = .ok (.lload_n 3, 1) := by decide +kernel
theorem dX0_timesPlus_55 : decode cX0_timesPlus 55 = .ok (.invokevirtual 41, 3) := by decide +kernel
theorem dX0_timesPlus_58 : decode cX0_timesPlus 58 = .ok (.return_, 1) := by decide +kernel
abbrev r_X0_timesPlus : Room := { frames := 1, cells := 0, slots := 0, locals := 22 }
abbrev m_X0_timesPlus : xMd := (cX0_timesPlus, RX0, 6, none, false, r_X0_timesPlus)
def b_X0_timesPlus_0 (Q : xQ) (K6 : xK) : xK := x_iload 2 <| x_i2l <| x_lstore 3 <| x_c (.int 0) <| x_istore 5 <| K6
def b_X0_timesPlus_6 (Q : xQ) (K6 : xK) : xK := x_iload 5 <| x_aload 0 <| x_get 1 1 <| x_icmp_ge (x_aload 0 <| x_lload 3 <| x_callv 1 C_X0_push 2 0 0 <| x_vret Q) <| x_lload 3 <| x_iload 1 <| x_i2l <| x_aload 0 <| x_get 1 0 <| x_iload 5 <| x_iald <| x_i2l <| x_c (.long 4294967295) <| x_land <| x_lmul <| x_ladd <| x_lstore 3 <| x_aload 0 <| x_get 1 0 <| x_iload 5 <| x_lload 3 <| x_l2i <| x_iast <| x_lload 3 <| x_c (.int 32) <| x_lushr <| x_lstore 3 <| x_iinc 5 1 <| K6
theorem s_X0_timesPlus_0 (G : xG) (l : Launch) (Q : xQ) (K6 : xK) (h6 : xW G l m_X0_timesPlus xX0 (xPm G Q r_X0_timesPlus) 6 K6) : xW G l m_X0_timesPlus xX0 (xPm G Q r_X0_timesPlus) 0 (b_X0_timesPlus_0 Q K6) := xo_iload_n (pc := 0) (i := 2) dX0_timesPlus_0 rfl <| xo_i2l (pc := 1) dX0_timesPlus_1 <| xo_lstore_n (pc := 2) (i := 3) dX0_timesPlus_2 rfl (by decide) <| xo_iconst (pc := 3) dX0_timesPlus_3 (by decide) <| xo_istore (pc := 4) (i := 5) dX0_timesPlus_4 (by decide) <| h6
theorem s_X0_timesPlus_6 (G : xG) (l : Launch) (Q : xQ) (K6 : xK) (h6 : xW G l m_X0_timesPlus xX0 (xPm G Q r_X0_timesPlus) 6 K6) : xW G l m_X0_timesPlus xX0 (xPm G Q r_X0_timesPlus) 6 (b_X0_timesPlus_6 Q K6) := xo_iload (pc := 6) (i := 5) dX0_timesPlus_6 <| xo_aload_n (pc := 8) (i := 0) dX0_timesPlus_8 rfl <| xo_get (pc := 9) (ci := 1) (i := 1) rfl ok1 (by decide) dX0_timesPlus_9 kw77 <| xo_icmp_ge (pc := 12) (tgt := 53) dX0_timesPlus_12 (by decide) (xo_aload_n (pc := 53) (i := 0) dX0_timesPlus_53 rfl <| xo_lload_n (pc := 54) (i := 3) dX0_timesPlus_54 rfl <| xo_callV (pc := 55) (np := 1) (ci := 1) rfl (cM_X0_push G l) dX0_timesPlus_55 kw535 kw532 kw534 ks13 kw6 (by decide +kernel) (by decide) <| xo_vret (pc := 58) rfl dX0_timesPlus_58) <| xo_lload_n (pc := 15) (i := 3) dX0_timesPlus_15 rfl <| xo_iload_n (pc := 16) (i := 1) dX0_timesPlus_16 rfl <| xo_i2l (pc := 17) dX0_timesPlus_17 <| xo_aload_n (pc := 18) (i := 0) dX0_timesPlus_18 rfl <| xo_get (pc := 19) (ci := 1) (i := 0) rfl ok1 (by decide) dX0_timesPlus_19 kw76 <| xo_iload (pc := 22) (i := 5) dX0_timesPlus_22 <| xo_iald (pc := 24) dX0_timesPlus_24 <| xo_i2l (pc := 25) dX0_timesPlus_25 <| xo_ldc2_w (pc := 26) dX0_timesPlus_26 kw531 <| xo_land (pc := 29) dX0_timesPlus_29 <| xo_lmul (pc := 30) dX0_timesPlus_30 <| xo_ladd (pc := 31) dX0_timesPlus_31 <| xo_lstore_n (pc := 32) (i := 3) dX0_timesPlus_32 rfl (by decide) <| xo_aload_n (pc := 33) (i := 0) dX0_timesPlus_33 rfl <| xo_get (pc := 34) (ci := 1) (i := 0) rfl ok1 (by decide) dX0_timesPlus_34 kw76 <| xo_iload (pc := 37) (i := 5) dX0_timesPlus_37 <| xo_lload_n (pc := 39) (i := 3) dX0_timesPlus_39 rfl <| xo_l2i (pc := 40) dX0_timesPlus_40 <| xo_iast (pc := 41) dX0_timesPlus_41 <| xo_lload_n (pc := 42) (i := 3) dX0_timesPlus_42 rfl <| xo_bipush (pc := 43) dX0_timesPlus_43 (by decide) <| xo_lushr (pc := 45) dX0_timesPlus_45 <| xo_lstore_n (pc := 46) (i := 3) dX0_timesPlus_46 rfl (by decide) <| xo_iinc (pc := 47) dX0_timesPlus_47 (by decide) <| xo_goto (pc := 50) (tgt := 6) dX0_timesPlus_50 (by decide) <| h6

def C_X0_timesPlus : xC := fun av S Q => ∃ t u F A, av = [.ref t, .int (nI F), .int (nI A)] ∧ bigV S.1 t u ∧ 0 < F ∧ F < 2 ^ 31 ∧ A < 2 ^ 31 ∧ u * F + A < 2 ^ 6400 ∧ ∀ h', xoff h' S.1 t (t + 2) → bigV h' t (u * F + A) → Q none (h', S.2)
def cn_X0_timesPlus : Nat × Nat × Nat × Nat → List (Nat × Value) := fun v => [(0, .ref v.1), (1, .int (nI v.2.1)), (3, .long (lN v.2.2.1)), (5, .int (nI v.2.2.2))]
def I_X0_timesPlus (Q : xQ) : Nat → Nat × Nat × Nat × Nat → xS → Prop := fun k v S => match v with
  | (t, F, c, i) => ∃ f n d A, bigR S.1 t f n ∧ (∀ j, i ≤ j → dg f n j = d j) ∧ (∀ j, d j < 2 ^ 32) ∧ k + i = n ∧ 0 < F ∧ F < 2 ^ 31 ∧ c < 2 ^ 31 ∧ bv f i + c * 2 ^ (32 * i) = sd (2 ^ 32) d i * F + A ∧ sd (2 ^ 32) d n * F + A < 2 ^ 6400 ∧ (0 < n → 2 ^ (32 * (n - 1)) ≤ sd (2 ^ 32) d n * F + A) ∧ ∀ h', xoff h' S.1 t (t + 2) → bigV h' t (sd (2 ^ 32) d n * F + A) → Q none (h', S.2)
theorem cM_X0_timesPlus (G : xG) (l : Launch) : xM G l yX0_timesPlus cX0_timesPlus 6 none r_X0_timesPlus C_X0_timesPlus := by
  refine xM_of (fun Q => b_X0_timesPlus_0 Q (xInv cn_X0_timesPlus (I_X0_timesPlus Q))) RX0 false (fun Q => s_X0_timesPlus_0 G l Q _ (xW.lp (b_X0_timesPlus_6 Q) (fun K hK => s_X0_timesPlus_6 G l Q K hK) ?_)) (by decide) rfl (by decide) ?_
  · rintro k ⟨t, F, c, i⟩ S ⟨f, n, d, A, r, ed, hd, hk, hF0, hF, hc, hv, hmax, hlow, hQ⟩
    have d1 := hd i
    have n2 := r.2.2
    have hp : 2 ^ (32 * (i + 1)) = 2 ^ 32 * 2 ^ (32 * i) := by rw [← Nat.pow_add]; congr 1; omega
    have en := nI_leI (show n < 2 ^ 31 by omega) (show i < 2 ^ 31 by omega)
    have ci := nI_clamp (show i < 2 ^ 31 by omega)
    have eF : (nI F).toInt64 = lN F := nI_l hF
    simp only [x_c, x_iload, x_lload, x_aload, x_istore, x_lstore, x_astore, x_iinc, x_iadd, x_isub, x_imul, x_iand, x_ior, x_ixor, x_ladd, x_lsub, x_lmul, x_land, x_lor, x_lxor, x_idiv, x_irem, x_ldiv, x_lrem, x_ineg, x_lneg, x_ishl, x_ishr, x_iushr, x_lshl, x_lshr, x_lushr, x_i2l, x_l2i, x_i2b, x_i2c, x_lcmp, x_if_eq, x_if_ne, x_if_lt, x_if_ge, x_if_gt, x_if_le, x_icmp_eq, x_icmp_ne, x_icmp_lt, x_icmp_ge, x_icmp_gt, x_icmp_le, x_dup, x_pop, x_dup_x1, x_dup2, x_iret, x_zret, x_lret, x_aret, x_vret, x_call, x_callv, x_calli, x_oinit, x_mmax, x_mmin, x_mabs, x_mmaxL, x_mminL, x_mabsL, lg_cmp_ge, lg_cmp_le, lg_cmp_gt, lg_cmp_lt, lg_cmp_eq, xlk, xs1, xs2, lv_args, Value.category, List.filter_cons, List.filter_nil, Nat.reduceAdd, Nat.reduceBEq, Nat.reduceEqDiff, Nat.reduceSub, Nat.sub_zero, beq_self_eq_true, Bool.not_true, Bool.not_false, Bool.and_true, Bool.and_false, Bool.true_and, Bool.false_and, reduceIte, reduceCtorEq, Bool.false_eq_true, Nat.one_ne_zero, Nat.zero_ne_one, Nat.zero_add, Option.toList_some, Option.toList_none, List.nil_append, List.cons_append, List.take_succ_cons, List.take_zero, List.take_nil, List.drop_succ_cons, List.drop_zero, List.length_cons, List.length_nil, List.reverse_cons, List.reverse_nil, List.head?_cons, List.map_cons, List.map_nil, List.sum_cons, List.sum_nil, true_and, and_true, List.getElem?_cons_zero, List.getElem?_cons_succ, Prod.eta, x_get, x_put, x_iald, x_iast, x_bald, x_bast, x_lald, x_last, x_alen, xup_s, xup_a1, xup_1a, xup_uu, nr_i, nr_l, nr_o, nr_a, ft_i, ft_l, ft_o, ft_a, Nat.reduceLT, i_cl0, i_cl1, i_n1, i_m1, List.set_cons_zero, List.set_cons_succ, Nat.reduceLeDiff, Nat.le_refl, Nat.zero_le, Nat.add_zero, b_X0_timesPlus_6, cn_X0_timesPlus, en, r.1, r.2.1, wn_mask, ci, eF]
    refine ⟨fun q => ?_, fun q => ⟨vp_in_nI (by omega) (by decide), vp_in_nI (by omega) (by decide), ?_⟩⟩
    · obtain rfl : i = n := by omega
      refine ⟨⟨t, _, rfl, r.1⟩, t, f, i, c, rfl, r, by omega, fun hc0 => ?_, fun h' o' r' => hQ h' o' ?_⟩
      · rcases Nat.lt_or_ge i 200 with z | z
        · exact z
        · have : i = 200 := by omega
          subst this
          rw [show 32 * 200 = 6400 from rfl] at hv
          have : 1 * 2 ^ 6400 ≤ c * 2 ^ 6400 := Nat.mul_le_mul_right _ (by omega)
          omega
      · rw [← hv]
        rcases r' with ⟨rfl, r'⟩ | ⟨h0, r'⟩
        · exact ⟨f, i, r', by omega, fun hpos => bv_norm (by have := hlow hpos; omega) hpos⟩
        · refine ⟨_, _, r', ?_, fun _ => ?_⟩
          · rw [bv, bv_upd_hi (Nat.le_refl i), pk_us, wn_nI, Nat.mod_eq_of_lt (by omega)]
          · simp only [Nat.add_sub_cancel, pk_us]
            exact fun e => h0 ((nI_eq (b := 0) (by omega) (by decide)).mp e)
    · have ew : wn (f i) = d i := by rw [← ed i (Nat.le_refl i)]; exact (if_pos (by omega)).symm
      have hb : F * d i ≤ (2 ^ 31 - 1) * (2 ^ 32 - 1) := Nat.mul_le_mul (by omega) (by omega)
      rw [ew, lN_mul, lN_add, lN_l2i, lN_ush32 (by omega)]
      refine xInvL.mk (k - 1) (t, F, (c + F * d i) / 2 ^ 32, i + 1) (by omega) ⟨rfl, rfl, rfl, rfl, trivial⟩ ⟨_, n, d, A, r.wr _, fun j hj => ?_, hd, by omega, hF0, hF, by omega, ?_, hmax, hlow, fun h' o' r' => hQ h' (xoff_tr o' off_wr) r'⟩
      · rw [← ed j (by omega)]
        unfold dg
        rw [pk_un (by omega)]
      rw [bv, bv_upd_hi (Nat.le_refl i), pk_us, wn_nI, sd, hp, ← Nat.pow_mul, Nat.add_mul]
      generalize 2 ^ (32 * i) = E at *
      generalize hz : c + F * d i = z at *
      have h1 := Nat.div_add_mod z (2 ^ 32)
      have h2 : z * E = (2 ^ 32 * (z / 2 ^ 32) + z % 2 ^ 32) * E := by rw [h1]
      rw [Nat.add_mul] at h2
      have h3 : z / 2 ^ 32 * (2 ^ 32 * E) = 2 ^ 32 * (z / 2 ^ 32) * E := by ac_rfl
      rw [h3]
      have h4 : z * E = c * E + d i * E * F := by rw [← hz, Nat.add_mul, Nat.mul_assoc F, Nat.mul_comm F]
      omega
  · rintro av S Q ⟨t, u, F, A, rfl, ⟨f, n, r, rfl, z0⟩, hF0, hF, hA, hm, hQ⟩
    refine ⟨Nat.le_of_ble_eq_true rfl, ?_⟩
    have eA : (nI A).toInt64 = lN A := nI_l hA
    simp only [x_c, x_iload, x_lload, x_aload, x_istore, x_lstore, x_astore, x_iinc, x_iadd, x_isub, x_imul, x_iand, x_ior, x_ixor, x_ladd, x_lsub, x_lmul, x_land, x_lor, x_lxor, x_idiv, x_irem, x_ldiv, x_lrem, x_ineg, x_lneg, x_ishl, x_ishr, x_iushr, x_lshl, x_lshr, x_lushr, x_i2l, x_l2i, x_i2b, x_i2c, x_lcmp, x_if_eq, x_if_ne, x_if_lt, x_if_ge, x_if_gt, x_if_le, x_icmp_eq, x_icmp_ne, x_icmp_lt, x_icmp_ge, x_icmp_gt, x_icmp_le, x_dup, x_pop, x_dup_x1, x_dup2, x_iret, x_zret, x_lret, x_aret, x_vret, x_call, x_callv, x_calli, x_oinit, x_mmax, x_mmin, x_mabs, x_mmaxL, x_mminL, x_mabsL, lg_cmp_ge, lg_cmp_le, lg_cmp_gt, lg_cmp_lt, lg_cmp_eq, xlk, xs1, xs2, lv_args, Value.category, List.filter_cons, List.filter_nil, Nat.reduceAdd, Nat.reduceBEq, Nat.reduceEqDiff, Nat.reduceSub, Nat.sub_zero, beq_self_eq_true, Bool.not_true, Bool.not_false, Bool.and_true, Bool.and_false, Bool.true_and, Bool.false_and, reduceIte, reduceCtorEq, Bool.false_eq_true, Nat.one_ne_zero, Nat.zero_ne_one, Nat.zero_add, Option.toList_some, Option.toList_none, List.nil_append, List.cons_append, List.take_succ_cons, List.take_zero, List.take_nil, List.drop_succ_cons, List.drop_zero, List.length_cons, List.length_nil, List.reverse_cons, List.reverse_nil, List.head?_cons, List.map_cons, List.map_nil, List.sum_cons, List.sum_nil, true_and, and_true, List.getElem?_cons_zero, List.getElem?_cons_succ, Prod.eta, x_get, x_put, x_iald, x_iast, x_bald, x_bast, x_lald, x_last, x_alen, xup_s, xup_a1, xup_1a, xup_uu, nr_i, nr_l, nr_o, nr_a, ft_i, ft_l, ft_o, ft_a, Nat.reduceLT, i_cl0, i_cl1, i_n1, i_m1, List.set_cons_zero, List.set_cons_succ, Nat.reduceLeDiff, Nat.le_refl, Nat.zero_le, Nat.add_zero, b_X0_timesPlus_0, eA]
    have cA := bv_dg (f := f) (Nat.le_refl n)
    rw [cA] at hm hQ
    refine xInv.mk n (t, F, A, 0) ⟨rfl, rfl, rfl, rfl, trivial⟩ ⟨f, n, dg f n, A, r, fun _ _ => rfl, dg_lt f n, rfl, hF0, hF, hA, by simp [sd, bv], hm, fun hpos => ?_, hQ⟩
    rw [← cA]
    have h1 := bv_top hpos (z0 hpos)
    have h2 : bv f n * 1 ≤ bv f n * F := Nat.mul_le_mul_left _ hF0
    omega
theorem dX0_halve_0 : decode cX0_halve 0 = .ok (.iconst 0, 1) := by decide +kernel
theorem dX0_halve_1 : decode cX0_halve 1 = .ok (.istore_n 1, 1) := by decide +kernel
theorem dX0_halve_2 : decode cX0_halve 2 = .ok (.iload_n 1, 1) := by decide +kernel
theorem dX0_halve_3 : decode cX0_halve 3 = .ok (.aload_n 0, 1) := by decide +kernel
theorem dX0_halve_4 : decode cX0_halve 4 = .ok (.getfield 13, 3) := by decide +kernel
theorem dX0_halve_7 : decode cX0_halve 7 = .ok (.if_icmp .ge 34, 3) := by decide +kernel
theorem dX0_halve_10 : decode cX0_halve 10 = .ok (.aload_n 0, 1) := by decide +kernel
theorem dX0_halve_11 : decode cX0_halve 11 = .ok (.getfield 9, 3) := by decide +kernel
theorem dX0_halve_14 : decode cX0_halve 14 = .ok (.iload_n 1, 1) := by decide +kernel
theorem dX0_halve_15 : decode cX0_halve 15 = .ok (.aload_n 0, 1) := by decide +kernel
theorem dX0_halve_16 : decode cX0_halve 16 = .ok (.iload_n 1, 1) := by decide +kernel
theorem dX0_halve_17 : decode cX0_halve 17 = .ok (.invokevirtual 31, 3) := by decide +kernel
theorem dX0_halve_20 : decode cX0_halve 20 = .ok (.iconst 1, 1) := by decide +kernel
theorem dX0_halve_21 : decode cX0_halve 21 = .ok (.lushr, 1) := by decide +kernel
theorem dX0_halve_22 : decode cX0_halve 22 = .ok (.aload_n 0, 1) := by decide +kernel
theorem dX0_halve_23 : decode cX0_halve 23 = .ok (.iload_n 1, 1) := by decide +kernel
theorem dX0_halve_24 : decode cX0_halve 24 = .ok (.iconst 1, 1) := by decide +kernel
theorem dX0_halve_25 : decode cX0_halve 25 = .ok (.iadd, 1) := by decide +kernel
theorem dX0_halve_26 : decode cX0_halve 26 = .ok (.invokevirtual 31, 3) := by decide +kernel
theorem dX0_halve_29 : decode cX0_halve 29 = .ok (.bipush 31, 2) := by decide +kernel
theorem dX0_halve_31 : decode cX0_halve 31 = .ok (.lshl, 1) := by decide +kernel
theorem dX0_halve_32 : decode cX0_halve 32 = .ok (.lor, 1) := by decide +kernel
theorem dX0_halve_33 : decode cX0_halve 33 = .ok (.l2i, 1) := by decide +kernel
theorem dX0_halve_34 : decode cX0_halve 34 = .ok (.iastore, 1) := by decide +kernel
theorem dX0_halve_35 : decode cX0_halve 35 = .ok (.iinc 1 1, 3) := by decide +kernel
theorem dX0_halve_38 : decode cX0_halve 38 = .ok (.goto (-36), 3) := by decide +kernel
theorem dX0_halve_41 : decode cX0_halve 41 = .ok (.aload_n 0, 1) := by decide +kernel
theorem dX0_halve_42 : decode cX0_halve 42 = .ok (.invokevirtual 45, 3) := by decide +kernel
theorem dX0_halve_45 : decode cX0_halve 45 = .ok (.return_, 1) := by decide +kernel
abbrev r_X0_halve : Room := { frames := 1, cells := 0, slots := 0, locals := 21 }
abbrev m_X0_halve : xMd := (cX0_halve, RX0, 2, none, false, r_X0_halve)
def b_X0_halve_0 (Q : xQ) (K2 : xK) : xK := x_c (.int 0) <| x_istore 1 <| K2
def b_X0_halve_2 (Q : xQ) (K2 : xK) : xK := x_iload 1 <| x_aload 0 <| x_get 1 1 <| x_icmp_ge (x_aload 0 <| x_callv 1 C_X0_trim 1 0 0 <| x_vret Q) <| x_aload 0 <| x_get 1 0 <| x_iload 1 <| x_aload 0 <| x_iload 1 <| x_callv 1 C_X0_digit 2 0 0 <| x_c (.int 1) <| x_lushr <| x_aload 0 <| x_iload 1 <| x_c (.int 1) <| x_iadd <| x_callv 1 C_X0_digit 2 0 0 <| x_c (.int 31) <| x_lshl <| x_lor <| x_l2i <| x_iast <| x_iinc 1 1 <| K2
theorem s_X0_halve_0 (G : xG) (l : Launch) (Q : xQ) (K2 : xK) (h2 : xW G l m_X0_halve xX0 (xPm G Q r_X0_halve) 2 K2) : xW G l m_X0_halve xX0 (xPm G Q r_X0_halve) 0 (b_X0_halve_0 Q K2) := xo_iconst (pc := 0) dX0_halve_0 (by decide) <| xo_istore_n (pc := 1) (i := 1) dX0_halve_1 rfl (by decide) <| h2
theorem s_X0_halve_2 (G : xG) (l : Launch) (Q : xQ) (K2 : xK) (h2 : xW G l m_X0_halve xX0 (xPm G Q r_X0_halve) 2 K2) : xW G l m_X0_halve xX0 (xPm G Q r_X0_halve) 2 (b_X0_halve_2 Q K2) := xo_iload_n (pc := 2) (i := 1) dX0_halve_2 rfl <| xo_aload_n (pc := 3) (i := 0) dX0_halve_3 rfl <| xo_get (pc := 4) (ci := 1) (i := 1) rfl ok1 (by decide) dX0_halve_4 kw77 <| xo_icmp_ge (pc := 7) (tgt := 41) dX0_halve_7 (by decide) (xo_aload_n (pc := 41) (i := 0) dX0_halve_41 rfl <| xo_callV (pc := 42) (np := 0) (ci := 1) rfl (cM_X0_trim G l) dX0_halve_42 kw591 kw588 kw590 ks17 kw6 (by decide +kernel) (by decide) <| xo_vret (pc := 45) rfl dX0_halve_45) <| xo_aload_n (pc := 10) (i := 0) dX0_halve_10 rfl <| xo_get (pc := 11) (ci := 1) (i := 0) rfl ok1 (by decide) dX0_halve_11 kw76 <| xo_iload_n (pc := 14) (i := 1) dX0_halve_14 rfl <| xo_aload_n (pc := 15) (i := 0) dX0_halve_15 rfl <| xo_iload_n (pc := 16) (i := 1) dX0_halve_16 rfl <| xo_callV (pc := 17) (np := 1) (ci := 1) rfl (cM_X0_digit G l) dX0_halve_17 kw587 kw584 kw585 kw586 kw6 (by decide +kernel) (by decide) <| xo_iconst (pc := 20) dX0_halve_20 (by decide) <| xo_lushr (pc := 21) dX0_halve_21 <| xo_aload_n (pc := 22) (i := 0) dX0_halve_22 rfl <| xo_iload_n (pc := 23) (i := 1) dX0_halve_23 rfl <| xo_iconst (pc := 24) dX0_halve_24 (by decide) <| xo_iadd (pc := 25) dX0_halve_25 <| xo_callV (pc := 26) (np := 1) (ci := 1) rfl (cM_X0_digit G l) dX0_halve_26 kw587 kw584 kw585 kw586 kw6 (by decide +kernel) (by decide) <| xo_bipush (pc := 29) dX0_halve_29 (by decide) <| xo_lshl (pc := 31) dX0_halve_31 <| xo_lor (pc := 32) dX0_halve_32 <| xo_l2i (pc := 33) dX0_halve_33 <| xo_iast (pc := 34) dX0_halve_34 <| xo_iinc (pc := 35) dX0_halve_35 (by decide) <| xo_goto (pc := 38) (tgt := 2) dX0_halve_38 (by decide) <| h2

def C_X0_halve : xC := fun av S Q => ∃ t u, av = [.ref t] ∧ bigV S.1 t u ∧ ∀ h', xoff h' S.1 t (t + 2) → bigV h' t (u / 2) → Q none (h', S.2)
def cn_X0_halve : Nat × Nat → List (Nat × Value) := fun v => [(0, .ref v.1), (1, .int (nI v.2))]
def I_X0_halve (Q : xQ) : Nat → Nat × Nat → xS → Prop := fun k v S => match v with
  | (t, i) => ∃ f n d, bigR S.1 t f n ∧ (∀ j, i ≤ j → dg f n j = d j) ∧ (∀ j, d j < 2 ^ 32) ∧ d n = 0 ∧ k + i = n ∧ sd (2 ^ 32) d i + (d i % 2) * 2 ^ (32 * i) = 2 * bv f i + d 0 % 2 ∧ ∀ h', xoff h' S.1 t (t + 2) → bigV h' t (sd (2 ^ 32) d n / 2) → Q none (h', S.2)
theorem cM_X0_halve (G : xG) (l : Launch) : xM G l yX0_halve cX0_halve 2 none r_X0_halve C_X0_halve := by
  refine xM_of (fun Q => b_X0_halve_0 Q (xInv cn_X0_halve (I_X0_halve Q))) RX0 false (fun Q => s_X0_halve_0 G l Q _ (xW.lp (b_X0_halve_2 Q) (fun K hK => s_X0_halve_2 G l Q K hK) ?_)) (by decide) rfl (by decide) ?_
  · rintro k ⟨t, i⟩ S ⟨f, n, d, r, ed, hd, hn0, hk, hv, hQ⟩
    have d1 := hd i
    have d2 := hd (i + 1)
    have n2 := r.2.2
    have hp : 2 ^ (32 * (i + 1)) = 2 ^ 32 * 2 ^ (32 * i) := by rw [← Nat.pow_add]; congr 1; omega
    have en := nI_leI (show n < 2 ^ 31 by omega) (show i < 2 ^ 31 by omega)
    have ci := nI_clamp (show i < 2 ^ 31 by omega)
    simp only [x_c, x_iload, x_lload, x_aload, x_istore, x_lstore, x_astore, x_iinc, x_iadd, x_isub, x_imul, x_iand, x_ior, x_ixor, x_ladd, x_lsub, x_lmul, x_land, x_lor, x_lxor, x_idiv, x_irem, x_ldiv, x_lrem, x_ineg, x_lneg, x_ishl, x_ishr, x_iushr, x_lshl, x_lshr, x_lushr, x_i2l, x_l2i, x_i2b, x_i2c, x_lcmp, x_if_eq, x_if_ne, x_if_lt, x_if_ge, x_if_gt, x_if_le, x_icmp_eq, x_icmp_ne, x_icmp_lt, x_icmp_ge, x_icmp_gt, x_icmp_le, x_dup, x_pop, x_dup_x1, x_dup2, x_iret, x_zret, x_lret, x_aret, x_vret, x_call, x_callv, x_calli, x_oinit, x_mmax, x_mmin, x_mabs, x_mmaxL, x_mminL, x_mabsL, lg_cmp_ge, lg_cmp_le, lg_cmp_gt, lg_cmp_lt, lg_cmp_eq, xlk, xs1, xs2, lv_args, Value.category, List.filter_cons, List.filter_nil, Nat.reduceAdd, Nat.reduceBEq, Nat.reduceEqDiff, Nat.reduceSub, Nat.sub_zero, beq_self_eq_true, Bool.not_true, Bool.not_false, Bool.and_true, Bool.and_false, Bool.true_and, Bool.false_and, reduceIte, reduceCtorEq, Bool.false_eq_true, Nat.one_ne_zero, Nat.zero_ne_one, Nat.zero_add, Option.toList_some, Option.toList_none, List.nil_append, List.cons_append, List.take_succ_cons, List.take_zero, List.take_nil, List.drop_succ_cons, List.drop_zero, List.length_cons, List.length_nil, List.reverse_cons, List.reverse_nil, List.head?_cons, List.map_cons, List.map_nil, List.sum_cons, List.sum_nil, true_and, and_true, List.getElem?_cons_zero, List.getElem?_cons_succ, Prod.eta, x_get, x_put, x_iald, x_iast, x_bald, x_bast, x_lald, x_last, x_alen, xup_s, xup_a1, xup_1a, xup_uu, nr_i, nr_l, nr_o, nr_a, ft_i, ft_l, ft_o, ft_a, Nat.reduceLT, i_cl0, i_cl1, i_n1, i_m1, List.set_cons_zero, List.set_cons_succ, Nat.reduceLeDiff, Nat.le_refl, Nat.zero_le, Nat.add_zero, b_X0_halve_2, cn_X0_halve, en, r.1, r.2.1]
    refine ⟨fun q => ?_, fun q => ⟨⟨t, _, rfl, r.1⟩, t, f, n, _, r, rfl, ?_⟩⟩
    · obtain rfl : i = n := by omega
      refine ⟨⟨t, _, rfl, r.1⟩, t, f, i, rfl, r, fun h' o' r' => hQ h' o' ?_⟩
      rw [hn0] at hv
      rw [show sd (2 ^ 32) d i / 2 = bv f i by omega]
      exact r'
    · simp only [x_c, x_iload, x_lload, x_aload, x_istore, x_lstore, x_astore, x_iinc, x_iadd, x_isub, x_imul, x_iand, x_ior, x_ixor, x_ladd, x_lsub, x_lmul, x_land, x_lor, x_lxor, x_idiv, x_irem, x_ldiv, x_lrem, x_ineg, x_lneg, x_ishl, x_ishr, x_iushr, x_lshl, x_lshr, x_lushr, x_i2l, x_l2i, x_i2b, x_i2c, x_lcmp, x_if_eq, x_if_ne, x_if_lt, x_if_ge, x_if_gt, x_if_le, x_icmp_eq, x_icmp_ne, x_icmp_lt, x_icmp_ge, x_icmp_gt, x_icmp_le, x_dup, x_pop, x_dup_x1, x_dup2, x_iret, x_zret, x_lret, x_aret, x_vret, x_call, x_callv, x_calli, x_oinit, x_mmax, x_mmin, x_mabs, x_mmaxL, x_mminL, x_mabsL, lg_cmp_ge, lg_cmp_le, lg_cmp_gt, lg_cmp_lt, lg_cmp_eq, xlk, xs1, xs2, lv_args, Value.category, List.filter_cons, List.filter_nil, Nat.reduceAdd, Nat.reduceBEq, Nat.reduceEqDiff, Nat.reduceSub, Nat.sub_zero, beq_self_eq_true, Bool.not_true, Bool.not_false, Bool.and_true, Bool.and_false, Bool.true_and, Bool.false_and, reduceIte, reduceCtorEq, Bool.false_eq_true, Nat.one_ne_zero, Nat.zero_ne_one, Nat.zero_add, Option.toList_some, Option.toList_none, List.nil_append, List.cons_append, List.take_succ_cons, List.take_zero, List.take_nil, List.drop_succ_cons, List.drop_zero, List.length_cons, List.length_nil, List.reverse_cons, List.reverse_nil, List.head?_cons, List.map_cons, List.map_nil, List.sum_cons, List.sum_nil, true_and, and_true, List.getElem?_cons_zero, List.getElem?_cons_succ, Prod.eta, x_get, x_put, x_iald, x_iast, x_bald, x_bast, x_lald, x_last, x_alen, xup_s, xup_a1, xup_1a, xup_uu, nr_i, nr_l, nr_o, nr_a, ft_i, ft_l, ft_o, ft_a, Nat.reduceLT, i_cl0, i_cl1, i_n1, i_m1, List.set_cons_zero, List.set_cons_succ, Nat.reduceLeDiff, Nat.le_refl, Nat.zero_le, Nat.add_zero, r.1, r.2.1]
      refine ⟨⟨t, _, rfl, r.1⟩, t, f, n, _, r, rfl, ?_⟩
      have e31 : ∀ x : Nat, lN x <<< ((31 : Int32).toInt64 &&& 63) = lN (x * 2 ^ 31) := fun x => wb_shl x (k := 31) (by decide)
      have e1 : ∀ x : Nat, x < 2 ^ 64 → ((lN x).toUInt64 >>> ((1 : Int32).toInt64.toUInt64 &&& Int64.toUInt64 63)).toInt64 = lN (x / 2 ^ 1) := fun x hx => wb_shr (k := 1) hx (by decide)
      have g1 : nI i + 1 = nI (i + 1) := nI_1 i
      simp only [x_c, x_iload, x_lload, x_aload, x_istore, x_lstore, x_astore, x_iinc, x_iadd, x_isub, x_imul, x_iand, x_ior, x_ixor, x_ladd, x_lsub, x_lmul, x_land, x_lor, x_lxor, x_idiv, x_irem, x_ldiv, x_lrem, x_ineg, x_lneg, x_ishl, x_ishr, x_iushr, x_lshl, x_lshr, x_lushr, x_i2l, x_l2i, x_i2b, x_i2c, x_lcmp, x_if_eq, x_if_ne, x_if_lt, x_if_ge, x_if_gt, x_if_le, x_icmp_eq, x_icmp_ne, x_icmp_lt, x_icmp_ge, x_icmp_gt, x_icmp_le, x_dup, x_pop, x_dup_x1, x_dup2, x_iret, x_zret, x_lret, x_aret, x_vret, x_call, x_callv, x_calli, x_oinit, x_mmax, x_mmin, x_mabs, x_mmaxL, x_mminL, x_mabsL, lg_cmp_ge, lg_cmp_le, lg_cmp_gt, lg_cmp_lt, lg_cmp_eq, xlk, xs1, xs2, lv_args, Value.category, List.filter_cons, List.filter_nil, Nat.reduceAdd, Nat.reduceBEq, Nat.reduceEqDiff, Nat.reduceSub, Nat.sub_zero, beq_self_eq_true, Bool.not_true, Bool.not_false, Bool.and_true, Bool.and_false, Bool.true_and, Bool.false_and, reduceIte, reduceCtorEq, Bool.false_eq_true, Nat.one_ne_zero, Nat.zero_ne_one, Nat.zero_add, Option.toList_some, Option.toList_none, List.nil_append, List.cons_append, List.take_succ_cons, List.take_zero, List.take_nil, List.drop_succ_cons, List.drop_zero, List.length_cons, List.length_nil, List.reverse_cons, List.reverse_nil, List.head?_cons, List.map_cons, List.map_nil, List.sum_cons, List.sum_nil, true_and, and_true, List.getElem?_cons_zero, List.getElem?_cons_succ, Prod.eta, x_get, x_put, x_iald, x_iast, x_bald, x_bast, x_lald, x_last, x_alen, xup_s, xup_a1, xup_1a, xup_uu, nr_i, nr_l, nr_o, nr_a, ft_i, ft_l, ft_o, ft_a, Nat.reduceLT, i_cl0, i_cl1, i_n1, i_m1, List.set_cons_zero, List.set_cons_succ, Nat.reduceLeDiff, Nat.le_refl, Nat.zero_le, Nat.add_zero, r.1, r.2.1, g1, dgt_nI f n (show i < 2 ^ 31 by omega), dgt_nI f n (show i + 1 < 2 ^ 31 by omega), ed i (Nat.le_refl i), ed (i + 1) (by omega), e31, e1 (d i) (by omega), ci, wb_or (show d i / 2 ^ 1 < 2 ^ 64 by omega) (show d (i + 1) * 2 ^ 31 < 2 ^ 64 by omega), lN_l2i]
      refine ⟨vp_in_nI (by omega) (by decide), xInvL.mk (k - 1) (t, i + 1) (by omega) ⟨rfl, rfl, trivial⟩ ⟨_, n, d, r.wr _, fun j hj => ?_, hd, hn0, by omega, ?_, fun h' o' r' => hQ h' (xoff_tr o' off_wr) r'⟩⟩
      · rw [← ed j (by omega)]
        unfold dg
        rw [pk_un (by omega)]
      · have eo : (d i / 2 ^ 1 ||| d (i + 1) * 2 ^ 31) % 2 ^ 32 = d i / 2 + (d (i + 1) % 2) * 2 ^ 31 := by
          rw [Nat.or_comm, Nat.mul_comm, ← Nat.two_pow_add_eq_or_of_lt (by omega)]
          omega
        rw [bv, bv_upd_hi (Nat.le_refl i), pk_us, wn_nI, eo, sd, hp, ← Nat.pow_mul]
        generalize 2 ^ (32 * i) = E at *
        have h1 := Nat.div_add_mod (d i) 2
        have h2 : d i * E = (2 * (d i / 2) + d i % 2) * E := by rw [h1]
        rw [Nat.add_mul] at h2 ⊢
        have h3 : d (i + 1) % 2 * (2 ^ 32 * E) = 2 * (d (i + 1) % 2 * 2 ^ 31 * E) := by rw [show (2 : Nat) ^ 32 = 2 * 2 ^ 31 from rfl]; ac_rfl
        have h4 : 2 * (d i / 2) * E = 2 * (d i / 2 * E) := Nat.mul_assoc _ _ _
        omega
  · rintro av S Q ⟨t, u, rfl, ⟨f, n, r, rfl, z0⟩, hQ⟩
    refine ⟨Nat.le_of_ble_eq_true rfl, ?_⟩
    simp only [x_c, x_iload, x_lload, x_aload, x_istore, x_lstore, x_astore, x_iinc, x_iadd, x_isub, x_imul, x_iand, x_ior, x_ixor, x_ladd, x_lsub, x_lmul, x_land, x_lor, x_lxor, x_idiv, x_irem, x_ldiv, x_lrem, x_ineg, x_lneg, x_ishl, x_ishr, x_iushr, x_lshl, x_lshr, x_lushr, x_i2l, x_l2i, x_i2b, x_i2c, x_lcmp, x_if_eq, x_if_ne, x_if_lt, x_if_ge, x_if_gt, x_if_le, x_icmp_eq, x_icmp_ne, x_icmp_lt, x_icmp_ge, x_icmp_gt, x_icmp_le, x_dup, x_pop, x_dup_x1, x_dup2, x_iret, x_zret, x_lret, x_aret, x_vret, x_call, x_callv, x_calli, x_oinit, x_mmax, x_mmin, x_mabs, x_mmaxL, x_mminL, x_mabsL, lg_cmp_ge, lg_cmp_le, lg_cmp_gt, lg_cmp_lt, lg_cmp_eq, xlk, xs1, xs2, lv_args, Value.category, List.filter_cons, List.filter_nil, Nat.reduceAdd, Nat.reduceBEq, Nat.reduceEqDiff, Nat.reduceSub, Nat.sub_zero, beq_self_eq_true, Bool.not_true, Bool.not_false, Bool.and_true, Bool.and_false, Bool.true_and, Bool.false_and, reduceIte, reduceCtorEq, Bool.false_eq_true, Nat.one_ne_zero, Nat.zero_ne_one, Nat.zero_add, Option.toList_some, Option.toList_none, List.nil_append, List.cons_append, List.take_succ_cons, List.take_zero, List.take_nil, List.drop_succ_cons, List.drop_zero, List.length_cons, List.length_nil, List.reverse_cons, List.reverse_nil, List.head?_cons, List.map_cons, List.map_nil, List.sum_cons, List.sum_nil, true_and, and_true, List.getElem?_cons_zero, List.getElem?_cons_succ, Prod.eta, x_get, x_put, x_iald, x_iast, x_bald, x_bast, x_lald, x_last, x_alen, xup_s, xup_a1, xup_1a, xup_uu, nr_i, nr_l, nr_o, nr_a, ft_i, ft_l, ft_o, ft_a, Nat.reduceLT, i_cl0, i_cl1, i_n1, i_m1, List.set_cons_zero, List.set_cons_succ, Nat.reduceLeDiff, Nat.le_refl, Nat.zero_le, Nat.add_zero, b_X0_halve_0]
    have cA := bv_dg (f := f) (Nat.le_refl n)
    rw [cA] at hQ
    exact xInv.mk n (t, 0) ⟨rfl, rfl, trivial⟩ ⟨f, n, dg f n, r, fun _ _ => rfl, dg_lt f n, if_neg (by omega), rfl, by simp [sd, bv], hQ⟩
