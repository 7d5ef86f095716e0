theorem dX12_bits_0 : decode cX12_bits 0 = .ok (.iconst 0, 1) := by decide +kernel
theorem dX12_bits_1 : decode cX12_bits 1 = .ok (.istore_n 1, 1) := by decide +kernel
theorem dX12_bits_2 : decode cX12_bits 2 = .ok (.aload_n 0, 1) := by decide +kernel
theorem dX12_bits_3 : decode cX12_bits 3 = .ok (.getfield 13, 3) := by decide +kernel
theorem dX12_bits_6 : decode cX12_bits 6 = .ok (.ifCond .le 25, 3) := by decide +kernel
theorem dX12_bits_9 : decode cX12_bits 9 = .ok (.aload_n 0, 1) := by decide +kernel
theorem dX12_bits_10 : decode cX12_bits 10 = .ok (.getfield 7, 3) := by decide +kernel
theorem dX12_bits_13 : decode cX12_bits 13 = .ok (.aload_n 0, 1) := by decide +kernel
theorem dX12_bits_14 : decode cX12_bits 14 = .ok (.getfield 13, 3) := by decide +kernel
theorem dX12_bits_17 : decode cX12_bits 17 = .ok (.iconst 1, 1) := by decide +kernel
theorem dX12_bits_18 : decode cX12_bits 18 = .ok (.isub, 1) := by decide +kernel
theorem dX12_bits_19 : decode cX12_bits 19 = .ok (.iaload, 1) := by decide +kernel
theorem dX12_bits_20 : decode cX12_bits 20 = .ok (.iload_n 1, 1) := by decide +kernel
theorem dX12_bits_21 : decode cX12_bits 21 = .ok (.ishr, 1) := by decide +kernel
theorem dX12_bits_22 : decode cX12_bits 22 = .ok (.ifCond .eq 9, 3) := by decide +kernel
theorem dX12_bits_25 : decode cX12_bits 25 = .ok (.iinc 1 1, 3) := by decide +kernel
theorem dX12_bits_28 : decode cX12_bits 28 = .ok (.goto (-26), 3) := by decide +kernel
theorem dX12_bits_31 : decode cX12_bits 31 = .ok (.aload_n 0, 1) := by decide +kernel
theorem dX12_bits_32 : decode cX12_bits 32 = .ok (.getfield 13, 3) := by decide +kernel
theorem dX12_bits_35 : decode cX12_bits 35 = .ok (.ifCond .ne 7, 3) := by decide +kernel
theorem dX12_bits_38 : decode cX12_bits 38 = .ok (.iconst 0, 1) := by decide +kernel
theorem dX12_bits_39 : decode cX12_bits 39 = .ok (.goto 14, 3) := by decide +kernel
theorem dX12_bits_42 : decode cX12_bits 42 = .ok (.bipush 16, 2) := by decide +kernel
theorem dX12_bits_44 : decode cX12_bits 44 = .ok (.aload_n 0, 1) := by decide +kernel
theorem dX12_bits_45 : decode cX12_bits 45 = .ok (.getfield 13, 3) := by decide +kernel
theorem dX12_bits_48 : decode cX12_bits 48 = .ok (.iconst 1, 1) := by decide +kernel
theorem dX12_bits_49 : decode cX12_bits 49 = .ok (.isub, 1) := by decide +kernel
theorem dX12_bits_50 : decode cX12_bits 50 = .ok (.imul, 1) := by decide +kernel
theorem dX12_bits_51 : decode cX12_bits 51 = .ok (.iload_n 1, 1) := by decide +kernel
theorem dX12_bits_52 : decode cX12_bits 52 = .ok (.iadd, 1) := by decide +kernel
theorem dX12_bits_53 : decode cX12_bits 53 = .ok (.ireturn, 1) := by decide +kernel
abbrev r_X12_bits : Room := { frames := 0, cells := 0, slots := 0, locals := 0 }
abbrev m_X12_bits : xMd := (cX12_bits, RX12, 2, (some FieldType.int), false, r_X12_bits)
def b_X12_bits_0 (Q : xQ) (K2 : xK) : xK := x_c (.int 0) <| x_istore 1 <| K2
def b_X12_bits_53 (Q : xQ) (K2 : xK) : xK := x_iret Q
def b_X12_bits_31 (Q : xQ) (K2 : xK) : xK := x_aload 0 <| x_get 11 1 <| x_if_ne (x_c (.int 16) <| x_aload 0 <| x_get 11 1 <| x_c (.int 1) <| x_isub <| x_imul <| x_iload 1 <| x_iadd <| (b_X12_bits_53 Q K2)) <| x_c (.int 0) <| (b_X12_bits_53 Q K2)
def b_X12_bits_2 (Q : xQ) (K2 : xK) : xK := x_aload 0 <| x_get 11 1 <| x_if_le ((b_X12_bits_31 Q K2)) <| x_aload 0 <| x_get 11 0 <| x_aload 0 <| x_get 11 1 <| x_c (.int 1) <| x_isub <| x_iald <| x_iload 1 <| x_ishr <| x_if_eq ((b_X12_bits_31 Q K2)) <| x_iinc 1 1 <| K2
theorem s_X12_bits_0 (G : xG) (l : Launch) (Q : xQ) (K2 : xK) (h2 : xW G l m_X12_bits xX0 (xPm G Q r_X12_bits) 2 K2) : xW G l m_X12_bits xX0 (xPm G Q r_X12_bits) 0 (b_X12_bits_0 Q K2) := xo_iconst (pc := 0) dX12_bits_0 (by decide) <| xo_istore_n (pc := 1) (i := 1) dX12_bits_1 rfl (by decide) <| h2
theorem s_X12_bits_53 (G : xG) (l : Launch) (Q : xQ) (K2 : xK) (h2 : xW G l m_X12_bits xX0 (xPm G Q r_X12_bits) 2 K2) : xW G l m_X12_bits xX0 (xPm G Q r_X12_bits) 53 (b_X12_bits_53 Q K2) := xo_iret (pc := 53) rfl dX12_bits_53
theorem s_X12_bits_31 (G : xG) (l : Launch) (Q : xQ) (K2 : xK) (h2 : xW G l m_X12_bits xX0 (xPm G Q r_X12_bits) 2 K2) : xW G l m_X12_bits xX0 (xPm G Q r_X12_bits) 31 (b_X12_bits_31 Q K2) := xo_aload_n (pc := 31) (i := 0) dX12_bits_31 rfl <| xo_get (pc := 32) (ci := 11) (i := 1) rfl ok11 (by decide) dX12_bits_32 kw1168 <| xo_if_ne (pc := 35) (tgt := 42) dX12_bits_35 (by decide) (xo_bipush (pc := 42) dX12_bits_42 (by decide) <| xo_aload_n (pc := 44) (i := 0) dX12_bits_44 rfl <| xo_get (pc := 45) (ci := 11) (i := 1) rfl ok11 (by decide) dX12_bits_45 kw1168 <| xo_iconst (pc := 48) dX12_bits_48 (by decide) <| xo_isub (pc := 49) dX12_bits_49 <| xo_imul (pc := 50) dX12_bits_50 <| xo_iload_n (pc := 51) (i := 1) dX12_bits_51 rfl <| xo_iadd (pc := 52) dX12_bits_52 <| (s_X12_bits_53 G l Q K2 h2)) <| xo_iconst (pc := 38) dX12_bits_38 (by decide) <| xo_goto (pc := 39) (tgt := 53) dX12_bits_39 (by decide) <| (s_X12_bits_53 G l Q K2 h2)
theorem s_X12_bits_2 (G : xG) (l : Launch) (Q : xQ) (K2 : xK) (h2 : xW G l m_X12_bits xX0 (xPm G Q r_X12_bits) 2 K2) : xW G l m_X12_bits xX0 (xPm G Q r_X12_bits) 2 (b_X12_bits_2 Q K2) := xo_aload_n (pc := 2) (i := 0) dX12_bits_2 rfl <| xo_get (pc := 3) (ci := 11) (i := 1) rfl ok11 (by decide) dX12_bits_3 kw1168 <| xo_if_le (pc := 6) (tgt := 31) dX12_bits_6 (by decide) ((s_X12_bits_31 G l Q K2 h2)) <| xo_aload_n (pc := 9) (i := 0) dX12_bits_9 rfl <| xo_get (pc := 10) (ci := 11) (i := 0) rfl ok11 (by decide) dX12_bits_10 kw1167 <| xo_aload_n (pc := 13) (i := 0) dX12_bits_13 rfl <| xo_get (pc := 14) (ci := 11) (i := 1) rfl ok11 (by decide) dX12_bits_14 kw1168 <| xo_iconst (pc := 17) dX12_bits_17 (by decide) <| xo_isub (pc := 18) dX12_bits_18 <| xo_iald (pc := 19) dX12_bits_19 <| xo_iload_n (pc := 20) (i := 1) dX12_bits_20 rfl <| xo_ishr (pc := 21) dX12_bits_21 <| xo_if_eq (pc := 22) (tgt := 31) dX12_bits_22 (by decide) ((s_X12_bits_31 G l Q K2 h2)) <| xo_iinc (pc := 25) dX12_bits_25 (by decide) <| xo_goto (pc := 28) (tgt := 2) dX12_bits_28 (by decide) <| h2

def C_X12_bits : xC := fun av S Q => ∃ a v, av = [.ref a] ∧ mV S.1 a v ∧ Q (some (.int (nI (nb v)))) S
def cn_X12_bits : Nat × Nat → List (Nat × Value) := fun v => [(0, .ref v.1), (1, .int (nI v.2))]
def I_X12_bits (Q : xQ) : Nat → Nat × Nat → xS → Prop := fun k v S => match v with
  | (a, b) => ∃ f n, mR S.1 a f n ∧ (0 < n → f (n - 1) ≠ 0) ∧ k + b = 16 ∧ (b = 0 ∨ (0 < n ∧ 2 ^ (b - 1) ≤ f (n - 1))) ∧ Q (some (.int (nI (nb (sd 65536 f n))))) S
theorem cM_X12_bits (G : xG) (l : Launch) : xM G l yX12_bits cX12_bits 2 (some FieldType.int) r_X12_bits C_X12_bits := by
  refine xM_of (fun Q => b_X12_bits_0 Q (xInv cn_X12_bits (I_X12_bits Q))) RX12 false (fun Q => s_X12_bits_0 G l Q _ (xW.lp (b_X12_bits_2 Q) (fun K hK => s_X12_bits_2 G l Q K hK) ?_)) (by decide) rfl (by decide) ?_
  · rintro k ⟨a, b⟩ S ⟨f, n, r, hz, hk, hb, hQ⟩
    have n2 := r.2.2.1
    have en : nI n ≤ 0 ↔ n ≤ 0 := nI_leI (b := 0) (by omega) (by decide)
    have en0 : nI n = 0 ↔ n = 0 := nI_eq (b := 0) (by omega) (by decide)
    cases n with
    | zero =>
      simp only [x_c, x_iload, x_lload, x_aload, x_istore, x_lstore, x_astore, x_iinc, x_iadd, x_isub, x_imul, x_iand, x_ior, x_ixor, x_ladd, x_lsub, x_lmul, x_land, x_lor, x_lxor, x_idiv, x_irem, x_ldiv, x_lrem, x_ineg, x_lneg, x_ishl, x_ishr, x_iushr, x_lshl, x_lshr, x_lushr, x_i2l, x_l2i, x_i2b, x_i2c, x_lcmp, x_if_eq, x_if_ne, x_if_lt, x_if_ge, x_if_gt, x_if_le, x_icmp_eq, x_icmp_ne, x_icmp_lt, x_icmp_ge, x_icmp_gt, x_icmp_le, x_dup, x_pop, x_dup_x1, x_dup2, x_iret, x_zret, x_lret, x_aret, x_vret, x_call, x_callv, x_calli, x_oinit, x_mmax, x_mmin, x_mabs, x_mmaxL, x_mminL, x_mabsL, lg_cmp_ge, lg_cmp_le, lg_cmp_gt, lg_cmp_lt, lg_cmp_eq, xlk, xs1, xs2, lv_args, Value.category, List.filter_cons, List.filter_nil, Nat.reduceAdd, Nat.reduceBEq, Nat.reduceEqDiff, Nat.reduceSub, Nat.sub_zero, beq_self_eq_true, Bool.not_true, Bool.not_false, Bool.and_true, Bool.and_false, Bool.true_and, Bool.false_and, reduceIte, reduceCtorEq, Bool.false_eq_true, Nat.one_ne_zero, Nat.zero_ne_one, Nat.zero_add, Option.toList_some, Option.toList_none, List.nil_append, List.cons_append, List.take_succ_cons, List.take_zero, List.take_nil, List.drop_succ_cons, List.drop_zero, List.length_cons, List.length_nil, List.reverse_cons, List.reverse_nil, List.head?_cons, List.map_cons, List.map_nil, List.sum_cons, List.sum_nil, true_and, and_true, List.getElem?_cons_zero, List.getElem?_cons_succ, Prod.eta, x_get, x_put, x_iald, x_iast, x_bald, x_bast, x_lald, x_last, x_alen, xup_s, xup_a1, xup_1a, xup_uu, nr_i, nr_l, nr_o, nr_a, ft_i, ft_l, ft_o, ft_a, Nat.reduceLT, i_cl0, i_cl1, i_n1, i_m1, List.set_cons_zero, List.set_cons_succ, Nat.reduceLeDiff, Nat.le_refl, Nat.zero_le, Nat.add_zero, b_X12_bits_0, b_X12_bits_2, b_X12_bits_31, b_X12_bits_53, cn_X12_bits, r.1, r.2.1, en, en0]
      exact ⟨fun _ => ⟨fun q => absurd trivial q, fun _ => hQ⟩, fun q => absurd trivial q⟩
    | succ n =>
      have fk := r.2.2.2 n
      have fz := hz (by omega)
      rw [Nat.add_sub_cancel] at hb fz
      have e1 : nI (n + 1) - 1 = nI n := nI_pred n
      have cn := m_cl (n := n) (by omega)
      have eS : nI (f n) >>> (nI b &&& 31) = nI (f n / 2 ^ b) := pk_shrN (by omega) _ b (by
        have : ∀ b, b < 17 → ((nI b &&& 31).toBitVec.smod 32).toNat = b := by decide
        exact this b (by omega))
      have e2 : nI (f n / 2 ^ b) = 0 ↔ f n / 2 ^ b = 0 := nI_eq (b := 0) (by have := Nat.div_le_self (f n) (2 ^ b); omega) (by decide)
      have e3 : (16 : Int32) * nI n + nI b = nI (16 * n + b) := by rw [show (16 : Int32) * nI n = nI (16 * n) from pk_mul 16 n, nI_add]
      simp only [x_c, x_iload, x_lload, x_aload, x_istore, x_lstore, x_astore, x_iinc, x_iadd, x_isub, x_imul, x_iand, x_ior, x_ixor, x_ladd, x_lsub, x_lmul, x_land, x_lor, x_lxor, x_idiv, x_irem, x_ldiv, x_lrem, x_ineg, x_lneg, x_ishl, x_ishr, x_iushr, x_lshl, x_lshr, x_lushr, x_i2l, x_l2i, x_i2b, x_i2c, x_lcmp, x_if_eq, x_if_ne, x_if_lt, x_if_ge, x_if_gt, x_if_le, x_icmp_eq, x_icmp_ne, x_icmp_lt, x_icmp_ge, x_icmp_gt, x_icmp_le, x_dup, x_pop, x_dup_x1, x_dup2, x_iret, x_zret, x_lret, x_aret, x_vret, x_call, x_callv, x_calli, x_oinit, x_mmax, x_mmin, x_mabs, x_mmaxL, x_mminL, x_mabsL, lg_cmp_ge, lg_cmp_le, lg_cmp_gt, lg_cmp_lt, lg_cmp_eq, xlk, xs1, xs2, lv_args, Value.category, List.filter_cons, List.filter_nil, Nat.reduceAdd, Nat.reduceBEq, Nat.reduceEqDiff, Nat.reduceSub, Nat.sub_zero, beq_self_eq_true, Bool.not_true, Bool.not_false, Bool.and_true, Bool.and_false, Bool.true_and, Bool.false_and, reduceIte, reduceCtorEq, Bool.false_eq_true, Nat.one_ne_zero, Nat.zero_ne_one, Nat.zero_add, Option.toList_some, Option.toList_none, List.nil_append, List.cons_append, List.take_succ_cons, List.take_zero, List.take_nil, List.drop_succ_cons, List.drop_zero, List.length_cons, List.length_nil, List.reverse_cons, List.reverse_nil, List.head?_cons, List.map_cons, List.map_nil, List.sum_cons, List.sum_nil, true_and, and_true, List.getElem?_cons_zero, List.getElem?_cons_succ, Prod.eta, x_get, x_put, x_iald, x_iast, x_bald, x_bast, x_lald, x_last, x_alen, xup_s, xup_a1, xup_1a, xup_uu, nr_i, nr_l, nr_o, nr_a, ft_i, ft_l, ft_o, ft_a, Nat.reduceLT, i_cl0, i_cl1, i_n1, i_m1, List.set_cons_zero, List.set_cons_succ, Nat.reduceLeDiff, Nat.le_refl, Nat.zero_le, Nat.add_zero, b_X12_bits_0, b_X12_bits_2, b_X12_bits_31, b_X12_bits_53, cn_X12_bits, r.1, r.2.1, en, en0, e1, cn, eS, e2, e3]
      refine ⟨fun q => q.elim, fun _ => ⟨vp_in_nI (by omega) (by decide), fun z => ?_, fun z => ?_⟩⟩
      · have hlt : f n < 2 ^ b := by
          rcases Nat.div_eq_zero_iff.mp z with h | h
          · exact absurd h (by have := Nat.two_pow_pos b; omega)
          · exact h
        have hb0 : b ≠ 0 := fun e => by subst e; rw [Nat.pow_zero] at hlt; omega
        have hnb : nb (f n) = b := by
          obtain ⟨c, rfl⟩ : ∃ c, b = c + 1 := ⟨b - 1, by omega⟩
          exact nb_of (by rcases hb with h | h <;> first | omega | exact h.2) hlt
        rw [sd, show (65536 : Nat) ^ n = 2 ^ (16 * n) by rw [Nat.pow_mul], nb_top (by omega) (by rw [Nat.pow_mul]; exact sd_lt (fun i _ => r.2.2.2 i)), hnb] at hQ
        refine ⟨fun _ => ?_, fun q => q.elim⟩
        rw [Nat.add_comm (16 * n) b]; exact hQ
      · have hge : 2 ^ b ≤ f n := by
          rcases Nat.lt_or_ge (f n) (2 ^ b) with h | h
          · exact absurd (Nat.div_eq_of_lt h) z
          · exact h
        have hb16 : b < 16 := by
          have : (2 : Nat) ^ b < 2 ^ 16 := Nat.lt_of_le_of_lt hge fk
          exact (Nat.pow_lt_pow_iff_right (by decide)).mp this
        exact xInvL.mk (k - 1) (a, b + 1) (by omega) ⟨rfl, rfl, trivial⟩ ⟨f, n + 1, r, hz, by omega, Or.inr ⟨by omega, by rw [Nat.add_sub_cancel, Nat.add_sub_cancel]; exact hge⟩, hQ⟩
  · rintro av S Q ⟨a, v, rfl, ⟨f, n, r, rfl, hz⟩, hQ⟩
    refine ⟨Nat.le_of_ble_eq_true rfl, ?_⟩
    simp only [x_c, x_iload, x_lload, x_aload, x_istore, x_lstore, x_astore, x_iinc, x_iadd, x_isub, x_imul, x_iand, x_ior, x_ixor, x_ladd, x_lsub, x_lmul, x_land, x_lor, x_lxor, x_idiv, x_irem, x_ldiv, x_lrem, x_ineg, x_lneg, x_ishl, x_ishr, x_iushr, x_lshl, x_lshr, x_lushr, x_i2l, x_l2i, x_i2b, x_i2c, x_lcmp, x_if_eq, x_if_ne, x_if_lt, x_if_ge, x_if_gt, x_if_le, x_icmp_eq, x_icmp_ne, x_icmp_lt, x_icmp_ge, x_icmp_gt, x_icmp_le, x_dup, x_pop, x_dup_x1, x_dup2, x_iret, x_zret, x_lret, x_aret, x_vret, x_call, x_callv, x_calli, x_oinit, x_mmax, x_mmin, x_mabs, x_mmaxL, x_mminL, x_mabsL, lg_cmp_ge, lg_cmp_le, lg_cmp_gt, lg_cmp_lt, lg_cmp_eq, xlk, xs1, xs2, lv_args, Value.category, List.filter_cons, List.filter_nil, Nat.reduceAdd, Nat.reduceBEq, Nat.reduceEqDiff, Nat.reduceSub, Nat.sub_zero, beq_self_eq_true, Bool.not_true, Bool.not_false, Bool.and_true, Bool.and_false, Bool.true_and, Bool.false_and, reduceIte, reduceCtorEq, Bool.false_eq_true, Nat.one_ne_zero, Nat.zero_ne_one, Nat.zero_add, Option.toList_some, Option.toList_none, List.nil_append, List.cons_append, List.take_succ_cons, List.take_zero, List.take_nil, List.drop_succ_cons, List.drop_zero, List.length_cons, List.length_nil, List.reverse_cons, List.reverse_nil, List.head?_cons, List.map_cons, List.map_nil, List.sum_cons, List.sum_nil, true_and, and_true, List.getElem?_cons_zero, List.getElem?_cons_succ, Prod.eta, x_get, x_put, x_iald, x_iast, x_bald, x_bast, x_lald, x_last, x_alen, xup_s, xup_a1, xup_1a, xup_uu, nr_i, nr_l, nr_o, nr_a, ft_i, ft_l, ft_o, ft_a, Nat.reduceLT, i_cl0, i_cl1, i_n1, i_m1, List.set_cons_zero, List.set_cons_succ, Nat.reduceLeDiff, Nat.le_refl, Nat.zero_le, Nat.add_zero, b_X12_bits_0]
    exact xInv.mk 16 (a, 0) ⟨rfl, rfl, trivial⟩ ⟨f, n, r, hz, rfl, Or.inl rfl, hQ⟩
theorem dX12_grow_0 : decode cX12_grow 0 = .ok (.iload_n 2, 1) := by decide +kernel
theorem dX12_grow_1 : decode cX12_grow 1 = .ok (.i2l, 1) := by decide +kernel
theorem dX12_grow_2 : decode cX12_grow 2 = .ok (.lstore_n 3, 1) := by decide +kernel
theorem dX12_grow_3 : decode cX12_grow 3 = .ok (.iconst 0, 1) := by decide +kernel
theorem dX12_grow_4 : decode cX12_grow 4 = .ok (.istore 5, 2) := by decide +kernel
theorem dX12_grow_6 : decode cX12_grow 6 = .ok (.iload 5, 2) := by decide +kernel
theorem dX12_grow_8 : decode cX12_grow 8 = .ok (.aload_n 0, 1) := by decide +kernel
theorem dX12_grow_9 : decode cX12_grow 9 = .ok (.getfield 13, 3) := by decide +kernel
theorem dX12_grow_12 : decode cX12_grow 12 = .ok (.if_icmp .ge 44, 3) := by decide +kernel
theorem dX12_grow_15 : decode cX12_grow 15 = .ok (.aload_n 0, 1) := by decide +kernel
theorem dX12_grow_16 : decode cX12_grow 16 = .ok (.getfield 7, 3) := by decide +kernel
theorem dX12_grow_19 : decode cX12_grow 19 = .ok (.iload 5, 2) := by decide +kernel
theorem dX12_grow_21 : decode cX12_grow 21 = .ok (.iaload, 1) := by decide +kernel
theorem dX12_grow_22 : decode cX12_grow 22 = .ok (.i2l, 1) := by decide +kernel
theorem dX12_grow_23 : decode cX12_grow 23 = .ok (.iload_n 1, 1) := by decide +kernel
theorem dX12_grow_24 : decode cX12_grow 24 = .ok (.i2l, 1) := by decide +kernel
theorem dX12_grow_25 : decode cX12_grow 25 = .ok (.lmul, 1) := by decide +kernel
theorem dX12_grow_26 : decode cX12_grow 26 = .ok (.lload_n 3, 1) := by decide +kernel
theorem dX12_grow_27 : decode cX12_grow 27 = .ok (.ladd, 1) := by decide +kernel
theorem dX12_grow_28 : decode cX12_grow 28 = .ok (.lstore 6, 2) := by decide +kernel
theorem dX12_grow_30 : decode cX12_grow 30 = .ok (.aload_n 0, 1) := by decide +kernel
theorem dX12_grow_31 : decode cX12_grow 31 = .ok (.getfield 7, 3) := by decide +kernel
theorem dX12_grow_34 : decode cX12_grow 34 = .ok (.iload 5, 2) := by decide +kernel
theorem dX12_grow_36 : decode cX12_grow 36 = .ok (.lload 6, 2) := by decide +kernel
theorem dX12_grow_38 : decode cX12_grow 38 = .ok (.ldc2_w 17, 3) := by decide +kernel
theorem dX12_grow_41 : decode cX12_grow 41 = .ok (.land, 1) := by decide +kernel
theorem dX12_grow_42 : decode cX12_grow 42 = .ok (.l2i, 1) := by decide +kernel
theorem dX12_grow_43 : decode cX12_grow 43 = .ok (.iastore, 1) := by decide +kernel
theorem dX12_grow_44 : decode cX12_grow 44 = .ok (.lload 6, 2) := by decide +kernel
theorem dX12_grow_46 : decode cX12_grow 46 = .ok (.bipush 16, 2) := by decide +kernel
theorem dX12_grow_48 : decode cX12_grow 48 = .ok (.lshr, 1) := by decide +kernel
theorem dX12_grow_49 : decode cX12_grow 49 = .ok (.lstore_n 3, 1) := by decide +kernel
theorem dX12_grow_50 : decode cX12_grow 50 = .ok (.iinc 5 1, 3) := by decide +kernel
theorem dX12_grow_53 : decode cX12_grow 53 = .ok (.goto (-47), 3) := by decide +kernel
theorem dX12_grow_56 : decode cX12_grow 56 = .ok (.lload_n 3, 1) := by decide +kernel
theorem dX12_grow_57 : decode cX12_grow 57 = .ok (.lconst 0, 1) := by decide +kernel
theorem dX12_grow_58 : decode cX12_grow 58 = .ok (.lcmp, 1) := by decide +kernel
theorem dX12_grow_59 : decode cX12_grow 59 = .ok (.ifCond .le 36, 3) := by decide +kernel
theorem dX12_grow_62 : decode cX12_grow 62 = .ok (.aload_n 0, 1) := by decide +kernel
theorem dX12_grow_63 : decode cX12_grow 63 = .ok (.getfield 7, 3) := by decide +kernel
theorem dX12_grow_66 : decode cX12_grow 66 = .ok (.aload_n 0, 1) := by decide +kernel
theorem dX12_grow_67 : decode cX12_grow 67 = .ok (.getfield 13, 3) := by decide +kernel
theorem dX12_grow_70 : decode cX12_grow 70 = .ok (.lload_n 3, 1) := by decide +kernel
theorem dX12_grow_71 : decode cX12_grow 71 = .ok (.ldc2_w 17, 3) := by decide +kernel
theorem dX12_grow_74 : decode cX12_grow 74 = .ok (.land, 1) := by decide +kernel
theorem dX12_grow_75 : decode cX12_grow 75 = .ok (.l2i, 1) := by decide +kernel
theorem dX12_grow_76 : decode cX12_grow 76 = .ok (.iastore, 1) := by decide +kernel
theorem dX12_grow_77 : decode cX12_grow 77 = .ok (.aload_n 0, 1) := by decide +kernel
theorem dX12_grow_78 : decode cX12_grow 78 = .ok (.dup, 1) := by decide +kernel
theorem dX12_grow_79 : decode cX12_grow 79 = .ok (.getfield 13, 3) := by decide +kernel
theorem dX12_grow_82 : decode cX12_grow 82 = .ok (.iconst 1, 1) := by decide +kernel
theorem dX12_grow_83 : decode cX12_grow 83 = .ok (.iadd, 1) := by decide +kernel
theorem dX12_grow_84 : decode cX12_grow 84 = .ok (.putfield 13, 3) := by decide +kernel
theorem dX12_grow_87 : decode cX12_grow 87 = .ok (.lload_n 3, 1) := by decide +kernel
theorem dX12_grow_88 : decode cX12_grow 88 = .ok (.bipush 16, 2) := by decide +kernel
theorem dX12_grow_90 : decode cX12_grow 90 = .ok (.lshr, 1) := by decide +kernel
theorem dX12_grow_91 : decode cX12_grow 91 = .ok (.lstore_n 3, 1) := by decide +kernel
theorem dX12_grow_92 : decode cX12_grow 92 = .ok (.goto (-36), 3) := by decide +kernel
theorem dX12_grow_95 : decode cX12_grow 95 = .ok (.return_, 1) := by decide +kernel
abbrev r_X12_grow : Room := { frames := 0, cells := 0, slots := 0, locals := 0 }
abbrev m_X12_grow : xMd := (cX12_grow, RX12, 8, none, false, r_X12_grow)
def b_X12_grow_0 (Q : xQ) (K6 : xK) (K56 : xK) : xK := x_iload 2 <| x_i2l <| x_lstore 3 <| x_c (.int 0) <| x_istore 5 <| K6
def b_X12_grow_6 (Q : xQ) (K6 : xK) (K56 : xK) : xK := x_iload 5 <| x_aload 0 <| x_get 11 1 <| x_icmp_ge (K56) <| x_aload 0 <| x_get 11 0 <| x_iload 5 <| x_iald <| x_i2l <| x_iload 1 <| x_i2l <| x_lmul <| x_lload 3 <| x_ladd <| x_lstore 6 <| x_aload 0 <| x_get 11 0 <| x_iload 5 <| x_lload 6 <| x_c (.long 65535) <| x_land <| x_l2i <| x_iast <| x_lload 6 <| x_c (.int 16) <| x_lshr <| x_lstore 3 <| x_iinc 5 1 <| K6
def b_X12_grow_56 (Q : xQ) (K6 : xK) (K56 : xK) : xK := x_lload 3 <| x_c (.long 0) <| x_lcmp <| x_if_le (x_vret Q) <| x_aload 0 <| x_get 11 0 <| x_aload 0 <| x_get 11 1 <| x_lload 3 <| x_c (.long 65535) <| x_land <| x_l2i <| x_iast <| x_aload 0 <| x_dup <| x_get 11 1 <| x_c (.int 1) <| x_iadd <| x_put 11 1 .int <| x_lload 3 <| x_c (.int 16) <| x_lshr <| x_lstore 3 <| K56
theorem s_X12_grow_0 (G : xG) (l : Launch) (Q : xQ) (K6 : xK) (K56 : xK) (h6 : xW G l m_X12_grow xX0 (xPm G Q r_X12_grow) 6 K6) (h56 : xW G l m_X12_grow xX0 (xPm G Q r_X12_grow) 56 K56) : xW G l m_X12_grow xX0 (xPm G Q r_X12_grow) 0 (b_X12_grow_0 Q K6 K56) := xo_iload_n (pc := 0) (i := 2) dX12_grow_0 rfl <| xo_i2l (pc := 1) dX12_grow_1 <| xo_lstore_n (pc := 2) (i := 3) dX12_grow_2 rfl (by decide) <| xo_iconst (pc := 3) dX12_grow_3 (by decide) <| xo_istore (pc := 4) (i := 5) dX12_grow_4 (by decide) <| h6
theorem s_X12_grow_6 (G : xG) (l : Launch) (Q : xQ) (K6 : xK) (K56 : xK) (h6 : xW G l m_X12_grow xX0 (xPm G Q r_X12_grow) 6 K6) (h56 : xW G l m_X12_grow xX0 (xPm G Q r_X12_grow) 56 K56) : xW G l m_X12_grow xX0 (xPm G Q r_X12_grow) 6 (b_X12_grow_6 Q K6 K56) := xo_iload (pc := 6) (i := 5) dX12_grow_6 <| xo_aload_n (pc := 8) (i := 0) dX12_grow_8 rfl <| xo_get (pc := 9) (ci := 11) (i := 1) rfl ok11 (by decide) dX12_grow_9 kw1168 <| xo_icmp_ge (pc := 12) (tgt := 56) dX12_grow_12 (by decide) (h56) <| xo_aload_n (pc := 15) (i := 0) dX12_grow_15 rfl <| xo_get (pc := 16) (ci := 11) (i := 0) rfl ok11 (by decide) dX12_grow_16 kw1167 <| xo_iload (pc := 19) (i := 5) dX12_grow_19 <| xo_iald (pc := 21) dX12_grow_21 <| xo_i2l (pc := 22) dX12_grow_22 <| xo_iload_n (pc := 23) (i := 1) dX12_grow_23 rfl <| xo_i2l (pc := 24) dX12_grow_24 <| xo_lmul (pc := 25) dX12_grow_25 <| xo_lload_n (pc := 26) (i := 3) dX12_grow_26 rfl <| xo_ladd (pc := 27) dX12_grow_27 <| xo_lstore (pc := 28) (i := 6) dX12_grow_28 (by decide) <| xo_aload_n (pc := 30) (i := 0) dX12_grow_30 rfl <| xo_get (pc := 31) (ci := 11) (i := 0) rfl ok11 (by decide) dX12_grow_31 kw1167 <| xo_iload (pc := 34) (i := 5) dX12_grow_34 <| xo_lload (pc := 36) (i := 6) dX12_grow_36 <| xo_ldc2_w (pc := 38) dX12_grow_38 kw1394 <| xo_land (pc := 41) dX12_grow_41 <| xo_l2i (pc := 42) dX12_grow_42 <| xo_iast (pc := 43) dX12_grow_43 <| xo_lload (pc := 44) (i := 6) dX12_grow_44 <| xo_bipush (pc := 46) dX12_grow_46 (by decide) <| xo_lshr (pc := 48) dX12_grow_48 <| xo_lstore_n (pc := 49) (i := 3) dX12_grow_49 rfl (by decide) <| xo_iinc (pc := 50) dX12_grow_50 (by decide) <| xo_goto (pc := 53) (tgt := 6) dX12_grow_53 (by decide) <| h6
theorem s_X12_grow_56 (G : xG) (l : Launch) (Q : xQ) (K6 : xK) (K56 : xK) (h6 : xW G l m_X12_grow xX0 (xPm G Q r_X12_grow) 6 K6) (h56 : xW G l m_X12_grow xX0 (xPm G Q r_X12_grow) 56 K56) : xW G l m_X12_grow xX0 (xPm G Q r_X12_grow) 56 (b_X12_grow_56 Q K6 K56) := xo_lload_n (pc := 56) (i := 3) dX12_grow_56 rfl <| xo_lconst (pc := 57) dX12_grow_57 (by decide) <| xo_lcmp (pc := 58) dX12_grow_58 <| xo_if_le (pc := 59) (tgt := 95) dX12_grow_59 (by decide) (xo_vret (pc := 95) rfl dX12_grow_95) <| xo_aload_n (pc := 62) (i := 0) dX12_grow_62 rfl <| xo_get (pc := 63) (ci := 11) (i := 0) rfl ok11 (by decide) dX12_grow_63 kw1167 <| xo_aload_n (pc := 66) (i := 0) dX12_grow_66 rfl <| xo_get (pc := 67) (ci := 11) (i := 1) rfl ok11 (by decide) dX12_grow_67 kw1168 <| xo_lload_n (pc := 70) (i := 3) dX12_grow_70 rfl <| xo_ldc2_w (pc := 71) dX12_grow_71 kw1394 <| xo_land (pc := 74) dX12_grow_74 <| xo_l2i (pc := 75) dX12_grow_75 <| xo_iast (pc := 76) dX12_grow_76 <| xo_aload_n (pc := 77) (i := 0) dX12_grow_77 rfl <| xo_dup (pc := 78) dX12_grow_78 <| xo_get (pc := 79) (ci := 11) (i := 1) rfl ok11 (by decide) dX12_grow_79 kw1168 <| xo_iconst (pc := 82) dX12_grow_82 (by decide) <| xo_iadd (pc := 83) dX12_grow_83 <| xo_put (pc := 84) (ci := 11) (i := 1) rfl ok11 (by decide) rfl rfl dX12_grow_84 kw1168 <| xo_lload_n (pc := 87) (i := 3) dX12_grow_87 rfl <| xo_bipush (pc := 88) dX12_grow_88 (by decide) <| xo_lshr (pc := 90) dX12_grow_90 <| xo_lstore_n (pc := 91) (i := 3) dX12_grow_91 rfl (by decide) <| xo_goto (pc := 92) (tgt := 56) dX12_grow_92 (by decide) <| h56

def C_X12_grow : xC := fun av S Q => ∃ t u F A, av = [.ref t, .int (nI F), .int (nI A)] ∧ mV S.1 t u ∧ 0 < F ∧ F < 65537 ∧ A < 65536 ∧ u * F + A < 65536 ^ 640 ∧ ∀ h', xoff h' S.1 t (t + 2) → mV h' t (u * F + A) → Q none (h', S.2)
def cn_X12_grow2 : Nat × Nat → List (Nat × Value) := fun v => [(0, .ref v.1), (3, .long (lN v.2))]
def I_X12_grow2 (Q : xQ) : Nat → Nat × Nat → xS → Prop := fun k v S => match v with
  | (t, c) => ∃ x n V, mR S.1 t x n ∧ c < 65536 ^ k ∧ k ≤ 3 ∧ sd 65536 x n + c * 65536 ^ n = V ∧ (0 < n → 65536 ^ (n - 1) ≤ V) ∧ V < 65536 ^ 640 ∧ ∀ h', xoff h' S.1 t (t + 2) → mV h' t V → Q none (h', S.2)
def cn_X12_grow1 : Nat × Nat × Nat × Nat → List (Nat × Value) := fun v => [(0, .ref v.1), (1, .int (nI v.2.1)), (3, .long (lN v.2.2.1)), (5, .int (nI v.2.2.2))]
def I_X12_grow1 (Q : xQ) : Nat → Nat × Nat × Nat × Nat → xS → Prop := fun k v S => match v with
  | (t, F, c, i) => ∃ x n d A, mR S.1 t x n ∧ (∀ j, i ≤ j → x j = d j) ∧ (∀ j, d j < 65536) ∧ k + i = n ∧ 0 < F ∧ F < 65537 ∧ c < 65537 ∧ sd 65536 x i + c * 65536 ^ i = sd 65536 d i * F + A ∧ sd 65536 d n * F + A < 65536 ^ 640 ∧ (0 < n → 65536 ^ (n - 1) ≤ sd 65536 d n * F + A) ∧ ∀ h', xoff h' S.1 t (t + 2) → mV h' t (sd 65536 d n * F + A) → Q none (h', S.2)
theorem mul_split {z E : Nat} : z / 65536 * (E * 65536) + z % 65536 * E = z * E := by
  have h1 := Nat.div_add_mod z 65536
  have h2 : z * E = (65536 * (z / 65536) + z % 65536) * E := by rw [h1]
  rw [Nat.add_mul] at h2
  have h3 : z / 65536 * (E * 65536) = 65536 * (z / 65536) * E := by ac_rfl
  omega
theorem cM_X12_grow (G : xG) (l : Launch) : xM G l yX12_grow cX12_grow 8 none r_X12_grow C_X12_grow := by
  have L2 : ∀ Q K6, xW G l m_X12_grow xX0 (xPm G Q r_X12_grow) 6 K6 → xW G l m_X12_grow xX0 (xPm G Q r_X12_grow) 56 (xInv cn_X12_grow2 (I_X12_grow2 Q)) := by
    intro Q K6 h6
    refine xW.lp (b_X12_grow_56 Q K6) (fun K hK => s_X12_grow_56 G l Q K6 K h6 hK) ?_
    rintro k ⟨t, c⟩ S ⟨x, n, V, r, hc, hk, hv, hlow, hV, hQ⟩
    have n2 := r.2.2.1
    have hc48 : c < 2 ^ 48 := Nat.lt_of_lt_of_le hc (by rw [show (2 : Nat) ^ 48 = 65536 ^ 3 by decide]; exact Nat.pow_le_pow_right (by decide) hk)
    have e0 : lN c ≤ 0 ↔ c ≤ 0 := pk_lLE (b := 0) (by omega) (by decide)
    have cn := m_cl (n := n) (by omega)
    have g1 : nI n + 1 = nI (n + 1) := nI_1 n
    simp only [x_c, x_iload, x_lload, x_aload, x_istore, x_lstore, x_astore, x_iinc, x_iadd, x_isub, x_imul, x_iand, x_ior, x_ixor, x_ladd, x_lsub, x_lmul, x_land, x_lor, x_lxor, x_idiv, x_irem, x_ldiv, x_lrem, x_ineg, x_lneg, x_ishl, x_ishr, x_iushr, x_lshl, x_lshr, x_lushr, x_i2l, x_l2i, x_i2b, x_i2c, x_lcmp, x_if_eq, x_if_ne, x_if_lt, x_if_ge, x_if_gt, x_if_le, x_icmp_eq, x_icmp_ne, x_icmp_lt, x_icmp_ge, x_icmp_gt, x_icmp_le, x_dup, x_pop, x_dup_x1, x_dup2, x_iret, x_zret, x_lret, x_aret, x_vret, x_call, x_callv, x_calli, x_oinit, x_mmax, x_mmin, x_mabs, x_mmaxL, x_mminL, x_mabsL, lg_cmp_ge, lg_cmp_le, lg_cmp_gt, lg_cmp_lt, lg_cmp_eq, xlk, xs1, xs2, lv_args, Value.category, List.filter_cons, List.filter_nil, Nat.reduceAdd, Nat.reduceBEq, Nat.reduceEqDiff, Nat.reduceSub, Nat.sub_zero, beq_self_eq_true, Bool.not_true, Bool.not_false, Bool.and_true, Bool.and_false, Bool.true_and, Bool.false_and, reduceIte, reduceCtorEq, Bool.false_eq_true, Nat.one_ne_zero, Nat.zero_ne_one, Nat.zero_add, Option.toList_some, Option.toList_none, List.nil_append, List.cons_append, List.take_succ_cons, List.take_zero, List.take_nil, List.drop_succ_cons, List.drop_zero, List.length_cons, List.length_nil, List.reverse_cons, List.reverse_nil, List.head?_cons, List.map_cons, List.map_nil, List.sum_cons, List.sum_nil, true_and, and_true, List.getElem?_cons_zero, List.getElem?_cons_succ, Prod.eta, x_get, x_put, x_iald, x_iast, x_bald, x_bast, x_lald, x_last, x_alen, xup_s, xup_a1, xup_1a, xup_uu, nr_i, nr_l, nr_o, nr_a, ft_i, ft_l, ft_o, ft_a, Nat.reduceLT, i_cl0, i_cl1, i_n1, i_m1, List.set_cons_zero, List.set_cons_succ, Nat.reduceLeDiff, Nat.le_refl, Nat.zero_le, Nat.add_zero, b_X12_grow_56, cn_X12_grow2, r.1, r.2.1, e0, m_and (show c < 2 ^ 64 by omega), m_sar (show c < 2 ^ 62 by omega), lN_l2i, upd_nI, cn, g1]
    refine ⟨fun z => ?_, fun z => ?_⟩
    · obtain rfl : c = 0 := by omega
      rw [Nat.zero_mul, Nat.add_zero] at hv
      exact hQ _ xoff_rf ⟨x, n, r, hv, fun hn => sd_norm r.2.2.2 (by rw [hv]; exact hlow hn) hn⟩
    · have hp : 65536 ^ n ≤ V := by
        have : 1 * 65536 ^ n ≤ c * 65536 ^ n := Nat.mul_le_mul_right _ (by omega)
        omega
      have hn : n < 640 := (Nat.pow_lt_pow_iff_right (a := 65536) (by decide)).mp (Nat.lt_of_le_of_lt hp hV)
      refine ⟨vp_in_nI hn (by decide), ?_⟩
      cases k with
      | zero => rw [Nat.pow_zero] at hc; omega
      | succ k =>
        have r1 := r.wr (k := n) (y := c % 65536) (Nat.mod_lt _ (by decide))
        refine xInvL.mk k (t, c / 65536) (by omega) ⟨rfl, rfl, trivial⟩ ⟨_, n + 1, V, r1.sz (by omega), ?_, by omega, ?_, fun _ => by rw [Nat.add_sub_cancel]; exact hp, hV, fun h' o' r' => hQ h' (xoff_tr o' (xoff_tr off_sz off_wr)) r'⟩
        · rw [Nat.div_lt_iff_lt_mul (by decide), ← Nat.pow_succ]; exact hc
        · rw [sd, sd_up_hi (Nat.le_refl n), va_us, show (65536 : Nat) ^ (n + 1) = 65536 ^ n * 65536 from Nat.pow_succ _ _, ← hv]
          have := mul_split (z := c) (E := 65536 ^ n)
          omega
  have L1 : ∀ Q, xW G l m_X12_grow xX0 (xPm G Q r_X12_grow) 6 (xInv cn_X12_grow1 (I_X12_grow1 Q)) := by
    intro Q
    refine xW.lp (fun K => b_X12_grow_6 Q K (xInv cn_X12_grow2 (I_X12_grow2 Q))) (fun K hK => s_X12_grow_6 G l Q K _ hK (L2 Q K hK)) ?_
    rintro k ⟨t, F, c, i⟩ S ⟨x, n, d, A, r, ed, hd, hk, hF0, hF, hc, hv, hmax, hlow, hQ⟩
    have n2 := r.2.2.1
    have d1 := hd i
    have en := nI_leI (show n < 2 ^ 31 by omega) (show i < 2 ^ 31 by omega)
    have ci := m_cl (n := i) (by omega)
    have eF : (nI F).toInt64 = lN F := nI_l (by omega)
    have ex : (nI (x i)).toInt64 = lN (d i) := by rw [ed i (Nat.le_refl i)]; exact nI_l (by omega)
    have hb : d i * F ≤ 65535 * 65536 := Nat.mul_le_mul (by omega) (by omega)
    have eM : lN (d i) * lN F + lN c = lN (d i * F + c) := by rw [lN_mul, lN_add]
    simp only [x_c, x_iload, x_lload, x_aload, x_istore, x_lstore, x_astore, x_iinc, x_iadd, x_isub, x_imul, x_iand, x_ior, x_ixor, x_ladd, x_lsub, x_lmul, x_land, x_lor, x_lxor, x_idiv, x_irem, x_ldiv, x_lrem, x_ineg, x_lneg, x_ishl, x_ishr, x_iushr, x_lshl, x_lshr, x_lushr, x_i2l, x_l2i, x_i2b, x_i2c, x_lcmp, x_if_eq, x_if_ne, x_if_lt, x_if_ge, x_if_gt, x_if_le, x_icmp_eq, x_icmp_ne, x_icmp_lt, x_icmp_ge, x_icmp_gt, x_icmp_le, x_dup, x_pop, x_dup_x1, x_dup2, x_iret, x_zret, x_lret, x_aret, x_vret, x_call, x_callv, x_calli, x_oinit, x_mmax, x_mmin, x_mabs, x_mmaxL, x_mminL, x_mabsL, lg_cmp_ge, lg_cmp_le, lg_cmp_gt, lg_cmp_lt, lg_cmp_eq, xlk, xs1, xs2, lv_args, Value.category, List.filter_cons, List.filter_nil, Nat.reduceAdd, Nat.reduceBEq, Nat.reduceEqDiff, Nat.reduceSub, Nat.sub_zero, beq_self_eq_true, Bool.not_true, Bool.not_false, Bool.and_true, Bool.and_false, Bool.true_and, Bool.false_and, reduceIte, reduceCtorEq, Bool.false_eq_true, Nat.one_ne_zero, Nat.zero_ne_one, Nat.zero_add, Option.toList_some, Option.toList_none, List.nil_append, List.cons_append, List.take_succ_cons, List.take_zero, List.take_nil, List.drop_succ_cons, List.drop_zero, List.length_cons, List.length_nil, List.reverse_cons, List.reverse_nil, List.head?_cons, List.map_cons, List.map_nil, List.sum_cons, List.sum_nil, true_and, and_true, List.getElem?_cons_zero, List.getElem?_cons_succ, Prod.eta, x_get, x_put, x_iald, x_iast, x_bald, x_bast, x_lald, x_last, x_alen, xup_s, xup_a1, xup_1a, xup_uu, nr_i, nr_l, nr_o, nr_a, ft_i, ft_l, ft_o, ft_a, Nat.reduceLT, i_cl0, i_cl1, i_n1, i_m1, List.set_cons_zero, List.set_cons_succ, Nat.reduceLeDiff, Nat.le_refl, Nat.zero_le, Nat.add_zero, b_X12_grow_6, cn_X12_grow1, en, r.1, r.2.1, ci, eF, ex, eM, m_and (show d i * F + c < 2 ^ 64 by omega), m_sar (show d i * F + c < 2 ^ 62 by omega), lN_l2i, upd_nI]
    refine ⟨fun q => ?_, fun q => ⟨vp_in_nI (by omega) (by decide), vp_in_nI (by omega) (by decide), ?_⟩⟩
    · obtain rfl : i = n := by omega
      exact xInv.mk 3 (t, c) ⟨rfl, rfl, trivial⟩ ⟨x, i, _, r, by omega, by omega, hv, hlow, hmax, hQ⟩
    · refine xInvL.mk (k - 1) (t, F, (d i * F + c) / 65536, i + 1) (by omega) ⟨rfl, rfl, rfl, rfl, trivial⟩ ⟨_, n, d, A, r.wr (Nat.mod_lt _ (by decide)), fun j hj => by rw [va_un (by omega)]; exact ed j (by omega), hd, by omega, hF0, hF, by omega, ?_, hmax, hlow, fun h' o' r' => hQ h' (xoff_tr o' off_wr) r'⟩
      rw [sd, sd_up_hi (Nat.le_refl i), va_us, sd, show (65536 : Nat) ^ (i + 1) = 65536 ^ i * 65536 from Nat.pow_succ _ _, Nat.add_mul]
      have h1 := mul_split (z := d i * F + c) (E := 65536 ^ i)
      have h2 : (d i * F + c) * 65536 ^ i = d i * 65536 ^ i * F + c * 65536 ^ i := by rw [Nat.add_mul, Nat.mul_assoc, Nat.mul_comm F, ← Nat.mul_assoc]
      omega
  refine xM_of (fun Q => b_X12_grow_0 Q (xInv cn_X12_grow1 (I_X12_grow1 Q)) (xInv cn_X12_grow2 (I_X12_grow2 Q))) RX12 false (fun Q => s_X12_grow_0 G l Q _ _ (L1 Q) (L2 Q _ (L1 Q))) (by decide) rfl (by decide) ?_
  rintro av S Q ⟨t, u, F, A, rfl, ⟨x, n, r, rfl, z0⟩, hF0, hF, hA, hm, hQ⟩
  refine ⟨Nat.le_of_ble_eq_true rfl, ?_⟩
  have eA : (nI A).toInt64 = lN A := nI_l (by omega)
  simp only [x_c, x_iload, x_lload, x_aload, x_istore, x_lstore, x_astore, x_iinc, x_iadd, x_isub, x_imul, x_iand, x_ior, x_ixor, x_ladd, x_lsub, x_lmul, x_land, x_lor, x_lxor, x_idiv, x_irem, x_ldiv, x_lrem, x_ineg, x_lneg, x_ishl, x_ishr, x_iushr, x_lshl, x_lshr, x_lushr, x_i2l, x_l2i, x_i2b, x_i2c, x_lcmp, x_if_eq, x_if_ne, x_if_lt, x_if_ge, x_if_gt, x_if_le, x_icmp_eq, x_icmp_ne, x_icmp_lt, x_icmp_ge, x_icmp_gt, x_icmp_le, x_dup, x_pop, x_dup_x1, x_dup2, x_iret, x_zret, x_lret, x_aret, x_vret, x_call, x_callv, x_calli, x_oinit, x_mmax, x_mmin, x_mabs, x_mmaxL, x_mminL, x_mabsL, lg_cmp_ge, lg_cmp_le, lg_cmp_gt, lg_cmp_lt, lg_cmp_eq, xlk, xs1, xs2, lv_args, Value.category, List.filter_cons, List.filter_nil, Nat.reduceAdd, Nat.reduceBEq, Nat.reduceEqDiff, Nat.reduceSub, Nat.sub_zero, beq_self_eq_true, Bool.not_true, Bool.not_false, Bool.and_true, Bool.and_false, Bool.true_and, Bool.false_and, reduceIte, reduceCtorEq, Bool.false_eq_true, Nat.one_ne_zero, Nat.zero_ne_one, Nat.zero_add, Option.toList_some, Option.toList_none, List.nil_append, List.cons_append, List.take_succ_cons, List.take_zero, List.take_nil, List.drop_succ_cons, List.drop_zero, List.length_cons, List.length_nil, List.reverse_cons, List.reverse_nil, List.head?_cons, List.map_cons, List.map_nil, List.sum_cons, List.sum_nil, true_and, and_true, List.getElem?_cons_zero, List.getElem?_cons_succ, Prod.eta, x_get, x_put, x_iald, x_iast, x_bald, x_bast, x_lald, x_last, x_alen, xup_s, xup_a1, xup_1a, xup_uu, nr_i, nr_l, nr_o, nr_a, ft_i, ft_l, ft_o, ft_a, Nat.reduceLT, i_cl0, i_cl1, i_n1, i_m1, List.set_cons_zero, List.set_cons_succ, Nat.reduceLeDiff, Nat.le_refl, Nat.zero_le, Nat.add_zero, b_X12_grow_0, eA]
  refine xInv.mk n (t, F, A, 0) ⟨rfl, rfl, rfl, rfl, trivial⟩ ⟨x, n, x, A, r, fun _ _ => rfl, r.2.2.2, rfl, hF0, hF, by omega, by simp [sd], hm, fun hpos => ?_, hQ⟩
  have h1 := sd_top (B := 65536) hpos (z0 hpos)
  have h2 : sd 65536 x n * 1 ≤ sd 65536 x n * F := Nat.mul_le_mul_left _ hF0
  omega
