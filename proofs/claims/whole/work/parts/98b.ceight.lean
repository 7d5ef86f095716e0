theorem dX10_eight_0 : decode cX10_eight 0 = .ok (.lconst 0, 1) := by decide +kernel
theorem dX10_eight_1 : decode cX10_eight 1 = .ok (.lstore_n 2, 1) := by decide +kernel
theorem dX10_eight_2 : decode cX10_eight 2 = .ok (.iload_n 1, 1) := by decide +kernel
theorem dX10_eight_3 : decode cX10_eight 3 = .ok (.ifCond .lt 15, 3) := by decide +kernel
theorem dX10_eight_6 : decode cX10_eight 6 = .ok (.iload_n 1, 1) := by decide +kernel
theorem dX10_eight_7 : decode cX10_eight 7 = .ok (.aload_n 0, 1) := by decide +kernel
theorem dX10_eight_8 : decode cX10_eight 8 = .ok (.getfield 9, 3) := by decide +kernel
theorem dX10_eight_11 : decode cX10_eight 11 = .ok (.arraylength, 1) := by decide +kernel
theorem dX10_eight_12 : decode cX10_eight 12 = .ok (.bipush 8, 2) := by decide +kernel
theorem dX10_eight_14 : decode cX10_eight 14 = .ok (.idiv, 1) := by decide +kernel
theorem dX10_eight_15 : decode cX10_eight 15 = .ok (.if_icmp .lt 5, 3) := by decide +kernel
theorem dX10_eight_18 : decode cX10_eight 18 = .ok (.lconst 0, 1) := by decide +kernel
theorem dX10_eight_19 : decode cX10_eight 19 = .ok (.lreturn, 1) := by decide +kernel
theorem dX10_eight_20 : decode cX10_eight 20 = .ok (.bipush 7, 2) := by decide +kernel
theorem dX10_eight_22 : decode cX10_eight 22 = .ok (.istore 4, 2) := by decide +kernel
theorem dX10_eight_24 : decode cX10_eight 24 = .ok (.iload 4, 2) := by decide +kernel
theorem dX10_eight_26 : decode cX10_eight 26 = .ok (.ifCond .lt 48, 3) := by decide +kernel
theorem dX10_eight_29 : decode cX10_eight 29 = .ok (.lload_n 2, 1) := by decide +kernel
theorem dX10_eight_30 : decode cX10_eight 30 = .ok (.bipush 8, 2) := by decide +kernel
theorem dX10_eight_32 : decode cX10_eight 32 = .ok (.lshl, 1) := by decide +kernel
theorem dX10_eight_33 : decode cX10_eight 33 = .ok (.lstore_n 2, 1) := by decide +kernel
theorem dX10_eight_34 : decode cX10_eight 34 = .ok (.bipush 8, 2) := by decide +kernel
theorem dX10_eight_36 : decode cX10_eight 36 = .ok (.iload_n 1, 1) := by decide +kernel
theorem dX10_eight_37 : decode cX10_eight 37 = .ok (.imul, 1) := by decide +kernel
theorem dX10_eight_38 : decode cX10_eight 38 = .ok (.iload 4, 2) := by decide +kernel
theorem dX10_eight_40 : decode cX10_eight 40 = .ok (.iadd, 1) := by decide +kernel
theorem dX10_eight_41 : decode cX10_eight 41 = .ok (.aload_n 0, 1) := by decide +kernel
theorem dX10_eight_42 : decode cX10_eight 42 = .ok (.getfield 23, 3) := by decide +kernel
theorem dX10_eight_45 : decode cX10_eight 45 = .ok (.if_icmp .ge 23, 3) := by decide +kernel
theorem dX10_eight_48 : decode cX10_eight 48 = .ok (.lload_n 2, 1) := by decide +kernel
theorem dX10_eight_49 : decode cX10_eight 49 = .ok (.aload_n 0, 1) := by decide +kernel
theorem dX10_eight_50 : decode cX10_eight 50 = .ok (.getfield 9, 3) := by decide +kernel
theorem dX10_eight_53 : decode cX10_eight 53 = .ok (.bipush 8, 2) := by decide +kernel
theorem dX10_eight_55 : decode cX10_eight 55 = .ok (.iload_n 1, 1) := by decide +kernel
theorem dX10_eight_56 : decode cX10_eight 56 = .ok (.imul, 1) := by decide +kernel
theorem dX10_eight_57 : decode cX10_eight 57 = .ok (.iload 4, 2) := by decide +kernel
theorem dX10_eight_59 : decode cX10_eight 59 = .ok (.iadd, 1) := by decide +kernel
theorem dX10_eight_60 : decode cX10_eight 60 = .ok (.baload, 1) := by decide +kernel
theorem dX10_eight_61 : decode cX10_eight 61 = .ok (.sipush 255, 3) := by decide +kernel
theorem dX10_eight_64 : decode cX10_eight 64 = .ok (.iand, 1) := by decide +kernel
theorem dX10_eight_65 : decode cX10_eight 65 = .ok (.i2l, 1) := by decide +kernel
theorem dX10_eight_66 : decode cX10_eight 66 = .ok (.lor, 1) := by decide +kernel
theorem dX10_eight_67 : decode cX10_eight 67 = .ok (.lstore_n 2, 1) := by decide +kernel
theorem dX10_eight_68 : decode cX10_eight 68 = .ok (.iinc 4 (-1), 3) := by decide +kernel
theorem dX10_eight_71 : decode cX10_eight 71 = .ok (.goto (-47), 3) := by decide +kernel
theorem dX10_eight_74 : decode cX10_eight 74 = .ok (.lload_n 2, 1) := by decide +kernel
theorem dX10_eight_75 : decode cX10_eight 75 = .ok (.lreturn, 1) := by decide +kernel
abbrev r_X10_eight : Room := { frames := 0, cells := 0, slots := 0, locals := 0 }
abbrev m_X10_eight : xMd := (cX10_eight, RX10, 5, (some FieldType.long), false, r_X10_eight)
def b_X10_eight_18 (Q : xQ) (K24 : xK) : xK := x_c (.long 0) <| x_lret Q
def b_X10_eight_68 (Q : xQ) (K24 : xK) : xK := x_iinc 4 (-1) <| K24
def b_X10_eight_0 (Q : xQ) (K24 : xK) : xK := x_c (.long 0) <| x_lstore 2 <| x_iload 1 <| x_if_lt ((b_X10_eight_18 Q K24)) <| x_iload 1 <| x_aload 0 <| x_get 9 0 <| x_alen <| x_c (.int 8) <| x_idiv <| x_icmp_lt (x_c (.int 7) <| x_istore 4 <| K24) <| (b_X10_eight_18 Q K24)
def b_X10_eight_24 (Q : xQ) (K24 : xK) : xK := x_iload 4 <| x_if_lt (x_lload 2 <| x_lret Q) <| x_lload 2 <| x_c (.int 8) <| x_lshl <| x_lstore 2 <| x_c (.int 8) <| x_iload 1 <| x_imul <| x_iload 4 <| x_iadd <| x_aload 0 <| x_get 9 3 <| x_icmp_ge ((b_X10_eight_68 Q K24)) <| x_lload 2 <| x_aload 0 <| x_get 9 0 <| x_c (.int 8) <| x_iload 1 <| x_imul <| x_iload 4 <| x_iadd <| x_bald <| x_c (.int 255) <| x_iand <| x_i2l <| x_lor <| x_lstore 2 <| (b_X10_eight_68 Q K24)
theorem s_X10_eight_18 (G : xG) (l : Launch) (Q : xQ) (K24 : xK) (h24 : xW G l m_X10_eight xX0 (xPm G Q r_X10_eight) 24 K24) : xW G l m_X10_eight xX0 (xPm G Q r_X10_eight) 18 (b_X10_eight_18 Q K24) := xo_lconst (pc := 18) dX10_eight_18 (by decide) <| xo_lret (pc := 19) rfl dX10_eight_19
theorem s_X10_eight_68 (G : xG) (l : Launch) (Q : xQ) (K24 : xK) (h24 : xW G l m_X10_eight xX0 (xPm G Q r_X10_eight) 24 K24) : xW G l m_X10_eight xX0 (xPm G Q r_X10_eight) 68 (b_X10_eight_68 Q K24) := xo_iinc (pc := 68) dX10_eight_68 (by decide) <| xo_goto (pc := 71) (tgt := 24) dX10_eight_71 (by decide) <| h24
theorem s_X10_eight_0 (G : xG) (l : Launch) (Q : xQ) (K24 : xK) (h24 : xW G l m_X10_eight xX0 (xPm G Q r_X10_eight) 24 K24) : xW G l m_X10_eight xX0 (xPm G Q r_X10_eight) 0 (b_X10_eight_0 Q K24) := xo_lconst (pc := 0) dX10_eight_0 (by decide) <| xo_lstore_n (pc := 1) (i := 2) dX10_eight_1 rfl (by decide) <| xo_iload_n (pc := 2) (i := 1) dX10_eight_2 rfl <| xo_if_lt (pc := 3) (tgt := 18) dX10_eight_3 (by decide) ((s_X10_eight_18 G l Q K24 h24)) <| xo_iload_n (pc := 6) (i := 1) dX10_eight_6 rfl <| xo_aload_n (pc := 7) (i := 0) dX10_eight_7 rfl <| xo_get (pc := 8) (ci := 9) (i := 0) rfl ok9 (by decide) dX10_eight_8 kw246 <| xo_alen (pc := 11) dX10_eight_11 <| xo_bipush (pc := 12) dX10_eight_12 (by decide) <| xo_idiv (pc := 14) dX10_eight_14 <| xo_icmp_lt (pc := 15) (tgt := 20) dX10_eight_15 (by decide) (xo_bipush (pc := 20) dX10_eight_20 (by decide) <| xo_istore (pc := 22) (i := 4) dX10_eight_22 (by decide) <| h24) <| (s_X10_eight_18 G l Q K24 h24)
theorem s_X10_eight_24 (G : xG) (l : Launch) (Q : xQ) (K24 : xK) (h24 : xW G l m_X10_eight xX0 (xPm G Q r_X10_eight) 24 K24) : xW G l m_X10_eight xX0 (xPm G Q r_X10_eight) 24 (b_X10_eight_24 Q K24) := xo_iload (pc := 24) (i := 4) dX10_eight_24 <| xo_if_lt (pc := 26) (tgt := 74) dX10_eight_26 (by decide) (xo_lload_n (pc := 74) (i := 2) dX10_eight_74 rfl <| xo_lret (pc := 75) rfl dX10_eight_75) <| xo_lload_n (pc := 29) (i := 2) dX10_eight_29 rfl <| xo_bipush (pc := 30) dX10_eight_30 (by decide) <| xo_lshl (pc := 32) dX10_eight_32 <| xo_lstore_n (pc := 33) (i := 2) dX10_eight_33 rfl (by decide) <| xo_bipush (pc := 34) dX10_eight_34 (by decide) <| xo_iload_n (pc := 36) (i := 1) dX10_eight_36 rfl <| xo_imul (pc := 37) dX10_eight_37 <| xo_iload (pc := 38) (i := 4) dX10_eight_38 <| xo_iadd (pc := 40) dX10_eight_40 <| xo_aload_n (pc := 41) (i := 0) dX10_eight_41 rfl <| xo_get (pc := 42) (ci := 9) (i := 3) rfl ok9 (by decide) dX10_eight_42 kw249 <| xo_icmp_ge (pc := 45) (tgt := 68) dX10_eight_45 (by decide) ((s_X10_eight_68 G l Q K24 h24)) <| xo_lload_n (pc := 48) (i := 2) dX10_eight_48 rfl <| xo_aload_n (pc := 49) (i := 0) dX10_eight_49 rfl <| xo_get (pc := 50) (ci := 9) (i := 0) rfl ok9 (by decide) dX10_eight_50 kw246 <| xo_bipush (pc := 53) dX10_eight_53 (by decide) <| xo_iload_n (pc := 55) (i := 1) dX10_eight_55 rfl <| xo_imul (pc := 56) dX10_eight_56 <| xo_iload (pc := 57) (i := 4) dX10_eight_57 <| xo_iadd (pc := 59) dX10_eight_59 <| xo_bald (pc := 60) dX10_eight_60 <| xo_sipush (pc := 61) dX10_eight_61 (by decide) <| xo_iand (pc := 64) dX10_eight_64 <| xo_i2l (pc := 65) dX10_eight_65 <| xo_lor (pc := 66) dX10_eight_66 <| xo_lstore_n (pc := 67) (i := 2) dX10_eight_67 rfl (by decide) <| (s_X10_eight_68 G l Q K24 h24)

theorem wdG_c {o o' : Nat → Nat} {os i : Nat} (h : ∀ j, j < os → o j = o' j) (k : Nat) : wdG o os i k = wdG o' os i k := by
  induction k with
  | zero => rfl
  | succ k ih =>
    show wdG o os i k * 256 + _ = wdG o' os i k * 256 + _
    rw [ih]
    congr 1
    split
    · rename_i c; exact h _ c
    · rfl
theorem wdG_0 {o : Nat → Nat} {os i : Nat} (h : os ≤ 8 * i) (k : Nat) (hk : k ≤ 8) : wdG o os i k = 0 := by
  induction k with
  | zero => rfl
  | succ k ih =>
    show wdG o os i k * 256 + _ = 0
    rw [ih (by omega), if_neg (by omega)]
def cn_X10_eight : Nat × Nat × Nat × Nat → List (Nat × Value) := fun v => [(0, .ref (v.1 + 39)), (1, .int (nI v.2.1)), (2, .long (lN v.2.2.1)), (4, .int (iZ (7 - (v.2.2.2 : Int))))]
def I_X10_eight (Q : xQ) : Nat → Nat × Nat × Nat × Nat → xS → Prop := fun m w S => match w with
  | (x, i, v, j) => m = 8 - j ∧ j ≤ 8 ∧ i ≤ 7 ∧ ∃ (L : List Nat), L.length ≤ 64 ∧ wW S.1 x L ∧ v = wdG (fun j => L.getD j 0) L.length i j ∧ Q (some (.long (lN (wdG (fun j => L.getD j 0) L.length i 8)))) S
def C_X10_eight : xC := fun av S Q => ∃ (x : Nat) (c : Int32) (L : List Nat), av = [.ref (x + 39), .int c] ∧ L.length ≤ 64 ∧ wW S.1 x L ∧ (¬ oB 0 7 c = true → Q (some (.long 0)) S) ∧ ∀ i, i ≤ 7 → c = nI i → Q (some (.long (lN (wdG (fun j => L.getD j 0) L.length i 8)))) S
theorem cM_X10_eight (G : xG) (l : Launch) : xM G l yX10_eight cX10_eight 5 (some FieldType.long) r_X10_eight C_X10_eight := by
  refine xM_of (fun Q => b_X10_eight_0 Q (xInv cn_X10_eight (I_X10_eight Q))) RX10 false (fun Q => s_X10_eight_0 G l Q _ (xW.lp (b_X10_eight_24 Q) (fun K hK => s_X10_eight_24 G l Q K hK) ?_)) (by decide) rfl (by decide) ?_
  · rintro m ⟨x, i, v, j⟩ ⟨h, S2⟩ ⟨rfl, hj, hi, L, hl, w, hv, hQ⟩
    dsimp only at *
    have c1 : cn_X10_eight (x, i, v, j) = [(0, .ref (x + 39)), (1, .int (nI i)), (2, .long (lN v)), (4, .int (iZ (7 - (j : Int))))] := rfl
    rw [c1]
    obtain ⟨wo, o, wa, ol⟩ := id w
    have z0 := iZ_lt0 (z := 7 - (j : Int)) (by omega) (by omega)
    generalize hK : xInvL cn_X10_eight (I_X10_eight Q) (8 - j) = K
    rcases Nat.lt_or_ge j 8 with j8 | j8
    · obtain ⟨n, hn⟩ : ∃ n, n = 8 * i + (7 - j) := ⟨_, rfl⟩
      have e1 : (8 : Int32) * nI i + iZ (7 - (j : Int)) = nI n := by
        rw [← iZ_nat, show (8 : Int32) = iZ 8 from rfl, iZ_mul, iZ_add, ← iZ_nat]; congr 1; omega
      have q1 : nI L.length ≤ nI n ↔ L.length ≤ n := nc_le (by omega) (by omega)
      have lb : ∀ q, (fun j => L.getD j 0) q < 256 := by
        intro q
        rcases Nat.lt_or_ge q L.length with c | c
        · show L.getD q 0 < 256
          rw [← ol q c]
          have := wa.2 q
          omega
        · show L.getD q 0 < 256
          rw [List.getD_eq_getElem?_getD, List.getElem?_eq_none c]
          decide
      have vl := wdG_lt lb L.length i j
      rw [← hv] at vl
      have p8 : 256 ^ j * 256 ≤ 256 ^ 8 := by
        rw [← Nat.pow_succ]
        exact Nat.pow_le_pow_right (by decide) (by omega)
      have p9 : (256 : Nat) ^ 8 = 18446744073709551616 := by decide
      have s8 : lN v <<< ((8 : Int32).toInt64 &&& 63) = lN (v * 256) := wb_shl v (k := 8) (by decide)
      have e8 : iZ (7 - (j : Int)) + Int32.ofInt (-1) = iZ (7 - ((j + 1 : Nat) : Int)) := by
        rw [show Int32.ofInt (-1) = iZ (-1) from rfl, iZ_add]
        congr 1
        omega
      have e8' : iZ (7 - (j : Int)) - 1 = iZ (7 - ((j + 1 : Nat) : Int)) := by rw [← i_m1]; exact e8
      have g68 : ∀ b, b = (if n < L.length then L.getD n 0 else 0) → b_X10_eight_68 Q K [(2, .long (lN (v * 256 + b))), (0, .ref (x + 39)), (1, .int (nI i)), (4, .int (iZ (7 - (j : Int))))] [] (h, S2) := by
        intro b hb
        simp only [q_c, x_iload, x_lload, x_aload, q_istore, q_lstore, q_astore, q_astore2, x_iinc, q_iadd, q_isub, q_imul, q_iand, q_ior, q_ixor, q_ladd, q_lsub, q_lmul, q_land, q_lor, q_lxor, q_idiv, q_irem, q_ldiv, q_lrem, q_ineg, q_lneg, q_ishl, q_ishr, q_iushr, q_lshl, q_lshr, q_lushr, q_i2l, q_l2i, q_i2b, q_i2c, q_lcmp, q_if_eq, q_if_ne, q_if_lt, q_if_ge, q_if_gt, q_if_le, q_icmp_eq, q_icmp_ne, q_icmp_lt, q_icmp_ge, q_icmp_gt, q_icmp_le, q_dup, q_pop, q_dup_x1, q_dup2, x_iret, x_zret, x_lret, x_aret, x_vret, x_call, x_callv, x_calli, x_oinit, x_mmax, x_mmin, x_mabs, x_mmaxL, x_mminL, x_mabsL, lg_cmp_ge, lg_cmp_le, lg_cmp_gt, lg_cmp_lt, lg_cmp_eq, xlk, q_xs1, q_xs2, lv_args, Value.category, List.filter_cons, List.filter_nil, Nat.reduceAdd, Nat.reduceBEq, Nat.reduceEqDiff, Nat.reduceSub, Nat.sub_zero, beq_self_eq_true, Bool.not_true, Bool.not_false, Bool.and_true, Bool.and_false, Bool.true_and, Bool.false_and, reduceIte, reduceCtorEq, Bool.false_eq_true, Nat.one_ne_zero, Nat.zero_ne_one, Nat.zero_add, Option.toList_some, Option.toList_none, List.nil_append, List.cons_append, List.take_succ_cons, List.take_zero, List.take_nil, List.drop_succ_cons, List.drop_zero, List.length_cons, List.length_nil, List.reverse_cons, List.reverse_nil, List.head?_cons, List.map_cons, List.map_nil, List.sum_cons, List.sum_nil, true_and, and_true, List.getElem?_cons_zero, List.getElem?_cons_succ, Prod.eta, x_iast, x_bald, x_bast, x_last, x_alen, xup_s, xup_a1, xup_1a, xup_uu, nr_i, nr_l, nr_o, nr_a, ft_i, ft_l, ft_o, ft_a, Nat.reduceLT, i_cl0, i_cl1, i_n1, i_m1, List.set_cons_zero, List.set_cons_succ, Nat.reduceLeDiff, Nat.le_refl, Nat.zero_le, Nat.add_zero, x_no, x_ifnull, x_ifnonnull, x_acmp_eq, x_acmp_ne, x_swl, x_tsw, x_castC, true_or, or_true, nr_z, ft_z, nr_z0, nr_z1, ft_z0, ft_z1, nr_on, nr_an, ft_on, ft_an, b_X10_eight_68, e8']
        rw [← hK]
        refine xInvL.mk (8 - (j + 1)) (x, i, v * 256 + b, j + 1) (by omega) ⟨rfl, rfl, rfl, rfl, trivial⟩ ⟨rfl, by omega, hi, L, hl, w, ?_, hQ⟩
        show _ = wdG (fun j => L.getD j 0) L.length i j * 256 + _
        rw [← hv, hb, hn]
      unfold b_X10_eight_24
      generalize b_X10_eight_68 Q K = J at *
      rcases Nat.lt_or_ge n L.length with c | c
      · have v1 : vp_in (nI n) 64 = True := eq_true (vp_in_nI (by omega) (by decide))
        have m1 := m_cl (n := n) (by omega)
        have on := wa.2 n
        have e2 : nI (o n) &&& 255 = nI (o n) := by
          have h9 : ∀ k : Fin 128, nI k.val &&& 255 = nI k.val := by decide +kernel
          exact h9 ⟨o n, on⟩
        have e3 : (nI (o n)).toInt64 = lN (o n) := by rw [← iZ_nat, iZ_l (by omega) (by omega), lZ_nat]
        have e4 : lN (v * 256) ||| lN (o n) = lN (v * 256 + o n) := g_or (k := 8) rfl (by omega) (by omega)
        simp only [q_c, x_iload, x_lload, x_aload, q_istore, q_lstore, q_astore, q_astore2, x_iinc, q_iadd, q_isub, q_imul, q_iand, q_ior, q_ixor, q_ladd, q_lsub, q_lmul, q_land, q_lor, q_lxor, q_idiv, q_irem, q_ldiv, q_lrem, q_ineg, q_lneg, q_ishl, q_ishr, q_iushr, q_lshl, q_lshr, q_lushr, q_i2l, q_l2i, q_i2b, q_i2c, q_lcmp, q_if_eq, q_if_ne, q_if_lt, q_if_ge, q_if_gt, q_if_le, q_icmp_eq, q_icmp_ne, q_icmp_lt, q_icmp_ge, q_icmp_gt, q_icmp_le, q_dup, q_pop, q_dup_x1, q_dup2, x_iret, x_zret, x_lret, x_aret, x_vret, x_call, x_callv, x_calli, x_oinit, x_mmax, x_mmin, x_mabs, x_mmaxL, x_mminL, x_mabsL, lg_cmp_ge, lg_cmp_le, lg_cmp_gt, lg_cmp_lt, lg_cmp_eq, xlk, q_xs1, q_xs2, lv_args, Value.category, List.filter_cons, List.filter_nil, Nat.reduceAdd, Nat.reduceBEq, Nat.reduceEqDiff, Nat.reduceSub, Nat.sub_zero, beq_self_eq_true, Bool.not_true, Bool.not_false, Bool.and_true, Bool.and_false, Bool.true_and, Bool.false_and, reduceIte, reduceCtorEq, Bool.false_eq_true, Nat.one_ne_zero, Nat.zero_ne_one, Nat.zero_add, Option.toList_some, Option.toList_none, List.nil_append, List.cons_append, List.take_succ_cons, List.take_zero, List.take_nil, List.drop_succ_cons, List.drop_zero, List.length_cons, List.length_nil, List.reverse_cons, List.reverse_nil, List.head?_cons, List.map_cons, List.map_nil, List.sum_cons, List.sum_nil, true_and, and_true, List.getElem?_cons_zero, List.getElem?_cons_succ, Prod.eta, x_iast, x_bald, x_bast, x_last, x_alen, xup_s, xup_a1, xup_1a, xup_uu, nr_i, nr_l, nr_o, nr_a, ft_i, ft_l, ft_o, ft_a, Nat.reduceLT, i_cl0, i_cl1, i_n1, i_m1, List.set_cons_zero, List.set_cons_succ, Nat.reduceLeDiff, Nat.le_refl, Nat.zero_le, Nat.add_zero, x_no, x_ifnull, x_ifnonnull, x_acmp_eq, x_acmp_ne, x_swl, x_tsw, x_castC, true_or, or_true, nr_z, ft_z, nr_z0, nr_z1, ft_z0, ft_z1, nr_on, nr_an, ft_on, ft_an, z0]
        refine ⟨fun y => by omega, fun _ => ?_⟩
        simp only [q_c, x_iload, x_lload, x_aload, q_istore, q_lstore, q_astore, q_astore2, x_iinc, q_iadd, q_isub, q_imul, q_iand, q_ior, q_ixor, q_ladd, q_lsub, q_lmul, q_land, q_lor, q_lxor, q_idiv, q_irem, q_ldiv, q_lrem, q_ineg, q_lneg, q_ishl, q_ishr, q_iushr, q_lshl, q_lshr, q_lushr, q_i2l, q_l2i, q_i2b, q_i2c, q_lcmp, q_if_eq, q_if_ne, q_if_lt, q_if_ge, q_if_gt, q_if_le, q_icmp_eq, q_icmp_ne, q_icmp_lt, q_icmp_ge, q_icmp_gt, q_icmp_le, q_dup, q_pop, q_dup_x1, q_dup2, x_iret, x_zret, x_lret, x_aret, x_vret, x_call, x_callv, x_calli, x_oinit, x_mmax, x_mmin, x_mabs, x_mmaxL, x_mminL, x_mabsL, lg_cmp_ge, lg_cmp_le, lg_cmp_gt, lg_cmp_lt, lg_cmp_eq, xlk, q_xs1, q_xs2, lv_args, Value.category, List.filter_cons, List.filter_nil, Nat.reduceAdd, Nat.reduceBEq, Nat.reduceEqDiff, Nat.reduceSub, Nat.sub_zero, beq_self_eq_true, Bool.not_true, Bool.not_false, Bool.and_true, Bool.and_false, Bool.true_and, Bool.false_and, reduceIte, reduceCtorEq, Bool.false_eq_true, Nat.one_ne_zero, Nat.zero_ne_one, Nat.zero_add, Option.toList_some, Option.toList_none, List.nil_append, List.cons_append, List.take_succ_cons, List.take_zero, List.take_nil, List.drop_succ_cons, List.drop_zero, List.length_cons, List.length_nil, List.reverse_cons, List.reverse_nil, List.head?_cons, List.map_cons, List.map_nil, List.sum_cons, List.sum_nil, true_and, and_true, List.getElem?_cons_zero, List.getElem?_cons_succ, Prod.eta, x_iast, x_bald, x_bast, x_last, x_alen, xup_s, xup_a1, xup_1a, xup_uu, nr_i, nr_l, nr_o, nr_a, ft_i, ft_l, ft_o, ft_a, Nat.reduceLT, i_cl0, i_cl1, i_n1, i_m1, List.set_cons_zero, List.set_cons_succ, Nat.reduceLeDiff, Nat.le_refl, Nat.zero_le, Nat.add_zero, x_no, x_ifnull, x_ifnonnull, x_acmp_eq, x_acmp_ne, x_swl, x_tsw, x_castC, true_or, or_true, nr_z, ft_z, nr_z0, nr_z1, ft_z0, ft_z1, nr_on, nr_an, ft_on, ft_an, s8, e1, wo.g0, wo.g3, q1]
        refine ⟨fun y => by omega, fun _ => ?_⟩
        simp only [q_c, x_iload, x_lload, x_aload, q_istore, q_lstore, q_astore, q_astore2, x_iinc, q_iadd, q_isub, q_imul, q_iand, q_ior, q_ixor, q_ladd, q_lsub, q_lmul, q_land, q_lor, q_lxor, q_idiv, q_irem, q_ldiv, q_lrem, q_ineg, q_lneg, q_ishl, q_ishr, q_iushr, q_lshl, q_lshr, q_lushr, q_i2l, q_l2i, q_i2b, q_i2c, q_lcmp, q_if_eq, q_if_ne, q_if_lt, q_if_ge, q_if_gt, q_if_le, q_icmp_eq, q_icmp_ne, q_icmp_lt, q_icmp_ge, q_icmp_gt, q_icmp_le, q_dup, q_pop, q_dup_x1, q_dup2, x_iret, x_zret, x_lret, x_aret, x_vret, x_call, x_callv, x_calli, x_oinit, x_mmax, x_mmin, x_mabs, x_mmaxL, x_mminL, x_mabsL, lg_cmp_ge, lg_cmp_le, lg_cmp_gt, lg_cmp_lt, lg_cmp_eq, xlk, q_xs1, q_xs2, lv_args, Value.category, List.filter_cons, List.filter_nil, Nat.reduceAdd, Nat.reduceBEq, Nat.reduceEqDiff, Nat.reduceSub, Nat.sub_zero, beq_self_eq_true, Bool.not_true, Bool.not_false, Bool.and_true, Bool.and_false, Bool.true_and, Bool.false_and, reduceIte, reduceCtorEq, Bool.false_eq_true, Nat.one_ne_zero, Nat.zero_ne_one, Nat.zero_add, Option.toList_some, Option.toList_none, List.nil_append, List.cons_append, List.take_succ_cons, List.take_zero, List.take_nil, List.drop_succ_cons, List.drop_zero, List.length_cons, List.length_nil, List.reverse_cons, List.reverse_nil, List.head?_cons, List.map_cons, List.map_nil, List.sum_cons, List.sum_nil, true_and, and_true, List.getElem?_cons_zero, List.getElem?_cons_succ, Prod.eta, x_iast, x_bald, x_bast, x_last, x_alen, xup_s, xup_a1, xup_1a, xup_uu, nr_i, nr_l, nr_o, nr_a, ft_i, ft_l, ft_o, ft_a, Nat.reduceLT, i_cl0, i_cl1, i_n1, i_m1, List.set_cons_zero, List.set_cons_succ, Nat.reduceLeDiff, Nat.le_refl, Nat.zero_le, Nat.add_zero, x_no, x_ifnull, x_ifnonnull, x_acmp_eq, x_acmp_ne, x_swl, x_tsw, x_castC, true_or, or_true, nr_z, ft_z, nr_z0, nr_z1, ft_z0, ft_z1, nr_on, nr_an, ft_on, ft_an, wa.1, v1, m1, e2, e3, e4]
        exact g68 (o n) (by rw [if_pos c]; exact ol n c)
      · simp only [q_c, x_iload, x_lload, x_aload, q_istore, q_lstore, q_astore, q_astore2, x_iinc, q_iadd, q_isub, q_imul, q_iand, q_ior, q_ixor, q_ladd, q_lsub, q_lmul, q_land, q_lor, q_lxor, q_idiv, q_irem, q_ldiv, q_lrem, q_ineg, q_lneg, q_ishl, q_ishr, q_iushr, q_lshl, q_lshr, q_lushr, q_i2l, q_l2i, q_i2b, q_i2c, q_lcmp, q_if_eq, q_if_ne, q_if_lt, q_if_ge, q_if_gt, q_if_le, q_icmp_eq, q_icmp_ne, q_icmp_lt, q_icmp_ge, q_icmp_gt, q_icmp_le, q_dup, q_pop, q_dup_x1, q_dup2, x_iret, x_zret, x_lret, x_aret, x_vret, x_call, x_callv, x_calli, x_oinit, x_mmax, x_mmin, x_mabs, x_mmaxL, x_mminL, x_mabsL, lg_cmp_ge, lg_cmp_le, lg_cmp_gt, lg_cmp_lt, lg_cmp_eq, xlk, q_xs1, q_xs2, lv_args, Value.category, List.filter_cons, List.filter_nil, Nat.reduceAdd, Nat.reduceBEq, Nat.reduceEqDiff, Nat.reduceSub, Nat.sub_zero, beq_self_eq_true, Bool.not_true, Bool.not_false, Bool.and_true, Bool.and_false, Bool.true_and, Bool.false_and, reduceIte, reduceCtorEq, Bool.false_eq_true, Nat.one_ne_zero, Nat.zero_ne_one, Nat.zero_add, Option.toList_some, Option.toList_none, List.nil_append, List.cons_append, List.take_succ_cons, List.take_zero, List.take_nil, List.drop_succ_cons, List.drop_zero, List.length_cons, List.length_nil, List.reverse_cons, List.reverse_nil, List.head?_cons, List.map_cons, List.map_nil, List.sum_cons, List.sum_nil, true_and, and_true, List.getElem?_cons_zero, List.getElem?_cons_succ, Prod.eta, x_iast, x_bald, x_bast, x_last, x_alen, xup_s, xup_a1, xup_1a, xup_uu, nr_i, nr_l, nr_o, nr_a, ft_i, ft_l, ft_o, ft_a, Nat.reduceLT, i_cl0, i_cl1, i_n1, i_m1, List.set_cons_zero, List.set_cons_succ, Nat.reduceLeDiff, Nat.le_refl, Nat.zero_le, Nat.add_zero, x_no, x_ifnull, x_ifnonnull, x_acmp_eq, x_acmp_ne, x_swl, x_tsw, x_castC, true_or, or_true, nr_z, ft_z, nr_z0, nr_z1, ft_z0, ft_z1, nr_on, nr_an, ft_on, ft_an, z0]
        refine ⟨fun y => by omega, fun _ => ?_⟩
        simp only [q_c, x_iload, x_lload, x_aload, q_istore, q_lstore, q_astore, q_astore2, x_iinc, q_iadd, q_isub, q_imul, q_iand, q_ior, q_ixor, q_ladd, q_lsub, q_lmul, q_land, q_lor, q_lxor, q_idiv, q_irem, q_ldiv, q_lrem, q_ineg, q_lneg, q_ishl, q_ishr, q_iushr, q_lshl, q_lshr, q_lushr, q_i2l, q_l2i, q_i2b, q_i2c, q_lcmp, q_if_eq, q_if_ne, q_if_lt, q_if_ge, q_if_gt, q_if_le, q_icmp_eq, q_icmp_ne, q_icmp_lt, q_icmp_ge, q_icmp_gt, q_icmp_le, q_dup, q_pop, q_dup_x1, q_dup2, x_iret, x_zret, x_lret, x_aret, x_vret, x_call, x_callv, x_calli, x_oinit, x_mmax, x_mmin, x_mabs, x_mmaxL, x_mminL, x_mabsL, lg_cmp_ge, lg_cmp_le, lg_cmp_gt, lg_cmp_lt, lg_cmp_eq, xlk, q_xs1, q_xs2, lv_args, Value.category, List.filter_cons, List.filter_nil, Nat.reduceAdd, Nat.reduceBEq, Nat.reduceEqDiff, Nat.reduceSub, Nat.sub_zero, beq_self_eq_true, Bool.not_true, Bool.not_false, Bool.and_true, Bool.and_false, Bool.true_and, Bool.false_and, reduceIte, reduceCtorEq, Bool.false_eq_true, Nat.one_ne_zero, Nat.zero_ne_one, Nat.zero_add, Option.toList_some, Option.toList_none, List.nil_append, List.cons_append, List.take_succ_cons, List.take_zero, List.take_nil, List.drop_succ_cons, List.drop_zero, List.length_cons, List.length_nil, List.reverse_cons, List.reverse_nil, List.head?_cons, List.map_cons, List.map_nil, List.sum_cons, List.sum_nil, true_and, and_true, List.getElem?_cons_zero, List.getElem?_cons_succ, Prod.eta, x_iast, x_bald, x_bast, x_last, x_alen, xup_s, xup_a1, xup_1a, xup_uu, nr_i, nr_l, nr_o, nr_a, ft_i, ft_l, ft_o, ft_a, Nat.reduceLT, i_cl0, i_cl1, i_n1, i_m1, List.set_cons_zero, List.set_cons_succ, Nat.reduceLeDiff, Nat.le_refl, Nat.zero_le, Nat.add_zero, x_no, x_ifnull, x_ifnonnull, x_acmp_eq, x_acmp_ne, x_swl, x_tsw, x_castC, true_or, or_true, nr_z, ft_z, nr_z0, nr_z1, ft_z0, ft_z1, nr_on, nr_an, ft_on, ft_an, s8, e1, wo.g0, wo.g3, q1]
        refine ⟨fun _ => ?_, fun y => by omega⟩
        have := g68 0 (by rw [if_neg (by omega)])
        rw [Nat.add_zero] at this
        exact this
    · obtain rfl : j = 8 := by omega
      simp only [q_c, x_iload, x_lload, x_aload, q_istore, q_lstore, q_astore, q_astore2, x_iinc, q_iadd, q_isub, q_imul, q_iand, q_ior, q_ixor, q_ladd, q_lsub, q_lmul, q_land, q_lor, q_lxor, q_idiv, q_irem, q_ldiv, q_lrem, q_ineg, q_lneg, q_ishl, q_ishr, q_iushr, q_lshl, q_lshr, q_lushr, q_i2l, q_l2i, q_i2b, q_i2c, q_lcmp, q_if_eq, q_if_ne, q_if_lt, q_if_ge, q_if_gt, q_if_le, q_icmp_eq, q_icmp_ne, q_icmp_lt, q_icmp_ge, q_icmp_gt, q_icmp_le, q_dup, q_pop, q_dup_x1, q_dup2, x_iret, x_zret, x_lret, x_aret, x_vret, x_call, x_callv, x_calli, x_oinit, x_mmax, x_mmin, x_mabs, x_mmaxL, x_mminL, x_mabsL, lg_cmp_ge, lg_cmp_le, lg_cmp_gt, lg_cmp_lt, lg_cmp_eq, xlk, q_xs1, q_xs2, lv_args, Value.category, List.filter_cons, List.filter_nil, Nat.reduceAdd, Nat.reduceBEq, Nat.reduceEqDiff, Nat.reduceSub, Nat.sub_zero, beq_self_eq_true, Bool.not_true, Bool.not_false, Bool.and_true, Bool.and_false, Bool.true_and, Bool.false_and, reduceIte, reduceCtorEq, Bool.false_eq_true, Nat.one_ne_zero, Nat.zero_ne_one, Nat.zero_add, Option.toList_some, Option.toList_none, List.nil_append, List.cons_append, List.take_succ_cons, List.take_zero, List.take_nil, List.drop_succ_cons, List.drop_zero, List.length_cons, List.length_nil, List.reverse_cons, List.reverse_nil, List.head?_cons, List.map_cons, List.map_nil, List.sum_cons, List.sum_nil, true_and, and_true, List.getElem?_cons_zero, List.getElem?_cons_succ, Prod.eta, x_iast, x_bald, x_bast, x_last, x_alen, xup_s, xup_a1, xup_1a, xup_uu, nr_i, nr_l, nr_o, nr_a, ft_i, ft_l, ft_o, ft_a, Nat.reduceLT, i_cl0, i_cl1, i_n1, i_m1, List.set_cons_zero, List.set_cons_succ, Nat.reduceLeDiff, Nat.le_refl, Nat.zero_le, Nat.add_zero, x_no, x_ifnull, x_ifnonnull, x_acmp_eq, x_acmp_ne, x_swl, x_tsw, x_castC, true_or, or_true, nr_z, ft_z, nr_z0, nr_z1, ft_z0, ft_z1, nr_on, nr_an, ft_on, ft_an, b_X10_eight_24, z0]
      refine ⟨fun _ => ?_, fun y => by omega⟩
      rw [hv]
      exact hQ
  · rintro av ⟨h, S2⟩ Q ⟨x, c, L, rfl, hl, w, hB, hG⟩
    dsimp only at *
    refine ⟨Nat.le_of_ble_eq_true rfl, ?_⟩
    obtain ⟨wo, o, wa, ol⟩ := id w
    have o0 : c < 0 ↔ c.toInt < 0 := by rw [i_lt, i_0]
    have e8 : Int32.ofNat 64 / 8 = 8 := by decide
    have n8 : ((8 : Int32) = 0) = False := eq_false (by decide)
    have o8 : c < 8 ↔ c.toInt < 8 := by rw [i_lt]; exact Iff.rfl
    have goal : ∀ i, i ≤ 7 → c = nI i → (xInv cn_X10_eight (I_X10_eight Q)) [(4, .int 7), (2, .long 0), (0, .ref (x + 39)), (1, .int c)] [] (h, S2) := by
      rintro i hi rfl
      exact xInv.mk 8 (x, i, 0, 0) ⟨rfl, rfl, rfl, rfl, trivial⟩ ⟨rfl, by omega, hi, L, hl, w, rfl, hG i hi rfl⟩
    generalize hK : xInv cn_X10_eight (I_X10_eight Q) = K at *
    simp only [q_c, x_iload, x_lload, x_aload, q_istore, q_lstore, q_astore, q_astore2, x_iinc, q_iadd, q_isub, q_imul, q_iand, q_ior, q_ixor, q_ladd, q_lsub, q_lmul, q_land, q_lor, q_lxor, q_idiv, q_irem, q_ldiv, q_lrem, q_ineg, q_lneg, q_ishl, q_ishr, q_iushr, q_lshl, q_lshr, q_lushr, q_i2l, q_l2i, q_i2b, q_i2c, q_lcmp, q_if_eq, q_if_ne, q_if_lt, q_if_ge, q_if_gt, q_if_le, q_icmp_eq, q_icmp_ne, q_icmp_lt, q_icmp_ge, q_icmp_gt, q_icmp_le, q_dup, q_pop, q_dup_x1, q_dup2, x_iret, x_zret, x_lret, x_aret, x_vret, x_call, x_callv, x_calli, x_oinit, x_mmax, x_mmin, x_mabs, x_mmaxL, x_mminL, x_mabsL, lg_cmp_ge, lg_cmp_le, lg_cmp_gt, lg_cmp_lt, lg_cmp_eq, xlk, q_xs1, q_xs2, lv_args, Value.category, List.filter_cons, List.filter_nil, Nat.reduceAdd, Nat.reduceBEq, Nat.reduceEqDiff, Nat.reduceSub, Nat.sub_zero, beq_self_eq_true, Bool.not_true, Bool.not_false, Bool.and_true, Bool.and_false, Bool.true_and, Bool.false_and, reduceIte, reduceCtorEq, Bool.false_eq_true, Nat.one_ne_zero, Nat.zero_ne_one, Nat.zero_add, Option.toList_some, Option.toList_none, List.nil_append, List.cons_append, List.take_succ_cons, List.take_zero, List.take_nil, List.drop_succ_cons, List.drop_zero, List.length_cons, List.length_nil, List.reverse_cons, List.reverse_nil, List.head?_cons, List.map_cons, List.map_nil, List.sum_cons, List.sum_nil, true_and, and_true, List.getElem?_cons_zero, List.getElem?_cons_succ, Prod.eta, x_iast, x_bald, x_bast, x_last, x_alen, xup_s, xup_a1, xup_1a, xup_uu, nr_i, nr_l, nr_o, nr_a, ft_i, ft_l, ft_o, ft_a, Nat.reduceLT, i_cl0, i_cl1, i_n1, i_m1, List.set_cons_zero, List.set_cons_succ, Nat.reduceLeDiff, Nat.le_refl, Nat.zero_le, Nat.add_zero, x_no, x_ifnull, x_ifnonnull, x_acmp_eq, x_acmp_ne, x_swl, x_tsw, x_castC, true_or, or_true, nr_z, ft_z, nr_z0, nr_z1, ft_z0, ft_z1, nr_on, nr_an, ft_on, ft_an, b_X10_eight_0, b_X10_eight_18, b_X10_eight_24, b_X10_eight_68, o0, wo.g0, wa.1, e8, n8, not_false_eq_true, o8]
    refine ⟨fun y => hB (fun d => absurd (of_decide_eq_true d) (by omega)), fun y => ⟨fun q => ?_, fun q => hB (fun d => absurd (of_decide_eq_true d) (by omega))⟩⟩
    obtain ⟨i, hi, rfl⟩ := oB_t (k := 7) (x := c) (decide_eq_true (by omega)) (by decide)
    exact goal i hi rfl
