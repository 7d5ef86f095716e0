/-! whole floats -/
def shI (u : Nat) : Int := if fE u = 0 then 1074 else 1075 - (fE u : Int)
theorem shI_X (u : Nat) : shI u = -fX u := by
  unfold shI fX
  split <;> omega
def whB (u : Nat) : Bool := decide (fP u % 2 ^ (shI u).toNat = 0)
theorem lZ_l2i (z : Int) : (lZ z).toInt32 = iZ z := by
  unfold lZ iZ
  exact Int64.toInt32_ofInt
theorem iZ_le0 {z : Int} (h1 : -2147483648 ≤ z) (h2 : z < 2147483648) : iZ z ≤ 0 ↔ z ≤ 0 := by
  rw [i_le, iZ_toInt h1 h2, i_0]
theorem iZ_geK {z : Int} (k : Nat) (h1 : -2147483648 ≤ z) (h2 : z < 2147483648) (hk : k < 2 ^ 31) : nI k ≤ iZ z ↔ (k : Int) ≤ z := by
  rw [i_le, iZ_toInt h1 h2, nI_toInt hk]
theorem lsh1 {k : Nat} (h : k < 63) : (1 : Int64) <<< ((nI k).toInt64 &&& 63) - 1 = lN (2 ^ k - 1) := by
  rw [show (1 : Int64) = lN 1 from rfl, wb_shl 1 (by omega), Nat.one_mul, lN_sub (Nat.one_le_two_pow)]
theorem fE_lt (u : Nat) : fE u < 2048 := Nat.mod_lt _ (by decide)
theorem fF_lt (u : Nat) : fF u < 2 ^ 52 := Nat.mod_lt _ (by decide)
theorem l_E {u : Nat} (h : u < 2 ^ 64) : ((lN u).toUInt64 >>> ((52 : Int32).toInt64.toUInt64 &&& Int64.toUInt64 63)).toInt64 &&& 2047 = lN (fE u) := by
  have s52 : ((lN u).toUInt64 >>> ((52 : Int32).toInt64.toUInt64 &&& Int64.toUInt64 63)).toInt64 = lN (u / 2 ^ 52) := wb_shr (k := 52) h (by decide)
  rw [s52]
  exact wb_mask (k := 11) (by omega) (by decide)
theorem l_F {u : Nat} (h : u < 2 ^ 64) : lN u &&& 4503599627370495 = lN (fF u) := wb_mask (k := 52) h (by decide)
theorem l_zE (u : Nat) : lN (fE u) = 0 ↔ fE u = 0 := pk_lEQ (b := 0) (by have := fE_lt u; omega) (by decide)
theorem l_oF (u : Nat) : lN (fF u) ||| 4503599627370496 = lN (fF u + 1 * 2 ^ 52) := g_or' (k := 52) (b := 1) rfl (fF_lt u) (by have := fF_lt u; omega)
theorem dX14_isWhole_0 : decode cX14_isWhole 0 = .ok (.lload_n 0, 1) := by decide +kernel
theorem dX14_isWhole_1 : decode cX14_isWhole 1 = .ok (.bipush 52, 2) := by decide +kernel
theorem dX14_isWhole_3 : decode cX14_isWhole 3 = .ok (.lushr, 1) := by decide +kernel
theorem dX14_isWhole_4 : decode cX14_isWhole 4 = .ok (.ldc2_w 222, 3) := by decide +kernel
theorem dX14_isWhole_7 : decode cX14_isWhole 7 = .ok (.land, 1) := by decide +kernel
theorem dX14_isWhole_8 : decode cX14_isWhole 8 = .ok (.lstore_n 2, 1) := by decide +kernel
theorem dX14_isWhole_9 : decode cX14_isWhole 9 = .ok (.lload_n 0, 1) := by decide +kernel
theorem dX14_isWhole_10 : decode cX14_isWhole 10 = .ok (.ldc2_w 224, 3) := by decide +kernel
theorem dX14_isWhole_13 : decode cX14_isWhole 13 = .ok (.land, 1) := by decide +kernel
theorem dX14_isWhole_14 : decode cX14_isWhole 14 = .ok (.lload_n 2, 1) := by decide +kernel
theorem dX14_isWhole_15 : decode cX14_isWhole 15 = .ok (.lconst 0, 1) := by decide +kernel
theorem dX14_isWhole_16 : decode cX14_isWhole 16 = .ok (.lcmp, 1) := by decide +kernel
theorem dX14_isWhole_17 : decode cX14_isWhole 17 = .ok (.ifCond .ne 7, 3) := by decide +kernel
theorem dX14_isWhole_20 : decode cX14_isWhole 20 = .ok (.lconst 0, 1) := by decide +kernel
theorem dX14_isWhole_21 : decode cX14_isWhole 21 = .ok (.goto 6, 3) := by decide +kernel
theorem dX14_isWhole_24 : decode cX14_isWhole 24 = .ok (.ldc2_w 226, 3) := by decide +kernel
theorem dX14_isWhole_27 : decode cX14_isWhole 27 = .ok (.lor, 1) := by decide +kernel
theorem dX14_isWhole_28 : decode cX14_isWhole 28 = .ok (.lstore 4, 2) := by decide +kernel
theorem dX14_isWhole_30 : decode cX14_isWhole 30 = .ok (.lload_n 2, 1) := by decide +kernel
theorem dX14_isWhole_31 : decode cX14_isWhole 31 = .ok (.lconst 0, 1) := by decide +kernel
theorem dX14_isWhole_32 : decode cX14_isWhole 32 = .ok (.lcmp, 1) := by decide +kernel
theorem dX14_isWhole_33 : decode cX14_isWhole 33 = .ok (.ifCond .ne 9, 3) := by decide +kernel
theorem dX14_isWhole_36 : decode cX14_isWhole 36 = .ok (.ldc2_w 228, 3) := by decide +kernel
theorem dX14_isWhole_39 : decode cX14_isWhole 39 = .ok (.goto 8, 3) := by decide +kernel
theorem dX14_isWhole_42 : decode cX14_isWhole 42 = .ok (.ldc2_w 230, 3) := by decide +kernel
theorem dX14_isWhole_45 : decode cX14_isWhole 45 = .ok (.lload_n 2, 1) := by decide +kernel
theorem dX14_isWhole_46 : decode cX14_isWhole 46 = .ok (.lsub, 1) := by decide +kernel
theorem dX14_isWhole_47 : decode cX14_isWhole 47 = .ok (.l2i, 1) := by decide +kernel
theorem dX14_isWhole_48 : decode cX14_isWhole 48 = .ok (.istore 6, 2) := by decide +kernel
theorem dX14_isWhole_50 : decode cX14_isWhole 50 = .ok (.lload 4, 2) := by decide +kernel
theorem dX14_isWhole_52 : decode cX14_isWhole 52 = .ok (.lconst 0, 1) := by decide +kernel
theorem dX14_isWhole_53 : decode cX14_isWhole 53 = .ok (.lcmp, 1) := by decide +kernel
theorem dX14_isWhole_54 : decode cX14_isWhole 54 = .ok (.ifCond .eq 29, 3) := by decide +kernel
theorem dX14_isWhole_57 : decode cX14_isWhole 57 = .ok (.iload 6, 2) := by decide +kernel
theorem dX14_isWhole_59 : decode cX14_isWhole 59 = .ok (.ifCond .le 24, 3) := by decide +kernel
theorem dX14_isWhole_62 : decode cX14_isWhole 62 = .ok (.iload 6, 2) := by decide +kernel
theorem dX14_isWhole_64 : decode cX14_isWhole 64 = .ok (.bipush 53, 2) := by decide +kernel
theorem dX14_isWhole_66 : decode cX14_isWhole 66 = .ok (.if_icmp .ge 21, 3) := by decide +kernel
theorem dX14_isWhole_69 : decode cX14_isWhole 69 = .ok (.lload 4, 2) := by decide +kernel
theorem dX14_isWhole_71 : decode cX14_isWhole 71 = .ok (.lconst 1, 1) := by decide +kernel
theorem dX14_isWhole_72 : decode cX14_isWhole 72 = .ok (.iload 6, 2) := by decide +kernel
theorem dX14_isWhole_74 : decode cX14_isWhole 74 = .ok (.lshl, 1) := by decide +kernel
theorem dX14_isWhole_75 : decode cX14_isWhole 75 = .ok (.lconst 1, 1) := by decide +kernel
theorem dX14_isWhole_76 : decode cX14_isWhole 76 = .ok (.lsub, 1) := by decide +kernel
theorem dX14_isWhole_77 : decode cX14_isWhole 77 = .ok (.land, 1) := by decide +kernel
theorem dX14_isWhole_78 : decode cX14_isWhole 78 = .ok (.lconst 0, 1) := by decide +kernel
theorem dX14_isWhole_79 : decode cX14_isWhole 79 = .ok (.lcmp, 1) := by decide +kernel
theorem dX14_isWhole_80 : decode cX14_isWhole 80 = .ok (.ifCond .ne 7, 3) := by decide +kernel
theorem dX14_isWhole_83 : decode cX14_isWhole 83 = .ok (.iconst 1, 1) := by decide +kernel
theorem dX14_isWhole_84 : decode cX14_isWhole 84 = .ok (.goto 4, 3) := by decide +kernel
theorem dX14_isWhole_87 : decode cX14_isWhole 87 = .ok (.iconst 0, 1) := by decide +kernel
theorem dX14_isWhole_88 : decode cX14_isWhole 88 = .ok (.ireturn, 1) := by decide +kernel
abbrev r_X14_isWhole : Room := { frames := 0, cells := 0, slots := 0, locals := 0 }
abbrev m_X14_isWhole : xMd := (cX14_isWhole, RX14, 7, (some FieldType.boolean), false, r_X14_isWhole)
def b_X14_isWhole_88 (Q : xQ) : xK := x_zret FieldType.boolean Q
def b_X14_isWhole_83 (Q : xQ) : xK := x_c (.int 1) <| (b_X14_isWhole_88 Q)
def b_X14_isWhole_87 (Q : xQ) : xK := x_c (.int 0) <| (b_X14_isWhole_88 Q)
def b_X14_isWhole_47 (Q : xQ) : xK := x_l2i <| x_istore 6 <| x_lload 4 <| x_c (.long 0) <| x_lcmp <| x_if_eq ((b_X14_isWhole_83 Q)) <| x_iload 6 <| x_if_le ((b_X14_isWhole_83 Q)) <| x_iload 6 <| x_c (.int 53) <| x_icmp_ge ((b_X14_isWhole_87 Q)) <| x_lload 4 <| x_c (.long 1) <| x_iload 6 <| x_lshl <| x_c (.long 1) <| x_lsub <| x_land <| x_c (.long 0) <| x_lcmp <| x_if_ne ((b_X14_isWhole_87 Q)) <| (b_X14_isWhole_83 Q)
def b_X14_isWhole_27 (Q : xQ) : xK := x_lor <| x_lstore 4 <| x_lload 2 <| x_c (.long 0) <| x_lcmp <| x_if_ne (x_c (.long 1075) <| x_lload 2 <| x_lsub <| (b_X14_isWhole_47 Q)) <| x_c (.long 1074) <| (b_X14_isWhole_47 Q)
def b_X14_isWhole_0 (Q : xQ) : xK := x_lload 0 <| x_c (.int 52) <| x_lushr <| x_c (.long 2047) <| x_land <| x_lstore 2 <| x_lload 0 <| x_c (.long 4503599627370495) <| x_land <| x_lload 2 <| x_c (.long 0) <| x_lcmp <| x_if_ne (x_c (.long 4503599627370496) <| (b_X14_isWhole_27 Q)) <| x_c (.long 0) <| (b_X14_isWhole_27 Q)
theorem s_X14_isWhole_88 (G : xG) (l : Launch) (Q : xQ) : xW G l m_X14_isWhole xX0 (xPm G Q r_X14_isWhole) 88 (b_X14_isWhole_88 Q) := xo_zret (pc := 88) rfl dX14_isWhole_88
theorem s_X14_isWhole_83 (G : xG) (l : Launch) (Q : xQ) : xW G l m_X14_isWhole xX0 (xPm G Q r_X14_isWhole) 83 (b_X14_isWhole_83 Q) := xo_iconst (pc := 83) dX14_isWhole_83 (by decide) <| xo_goto (pc := 84) (tgt := 88) dX14_isWhole_84 (by decide) <| (s_X14_isWhole_88 G l Q)
theorem s_X14_isWhole_87 (G : xG) (l : Launch) (Q : xQ) : xW G l m_X14_isWhole xX0 (xPm G Q r_X14_isWhole) 87 (b_X14_isWhole_87 Q) := xo_iconst (pc := 87) dX14_isWhole_87 (by decide) <| (s_X14_isWhole_88 G l Q)
theorem s_X14_isWhole_47 (G : xG) (l : Launch) (Q : xQ) : xW G l m_X14_isWhole xX0 (xPm G Q r_X14_isWhole) 47 (b_X14_isWhole_47 Q) := xo_l2i (pc := 47) dX14_isWhole_47 <| xo_istore (pc := 48) (i := 6) dX14_isWhole_48 (by decide) <| xo_lload (pc := 50) (i := 4) dX14_isWhole_50 <| xo_lconst (pc := 52) dX14_isWhole_52 (by decide) <| xo_lcmp (pc := 53) dX14_isWhole_53 <| xo_if_eq (pc := 54) (tgt := 83) dX14_isWhole_54 (by decide) ((s_X14_isWhole_83 G l Q)) <| xo_iload (pc := 57) (i := 6) dX14_isWhole_57 <| xo_if_le (pc := 59) (tgt := 83) dX14_isWhole_59 (by decide) ((s_X14_isWhole_83 G l Q)) <| xo_iload (pc := 62) (i := 6) dX14_isWhole_62 <| xo_bipush (pc := 64) dX14_isWhole_64 (by decide) <| xo_icmp_ge (pc := 66) (tgt := 87) dX14_isWhole_66 (by decide) ((s_X14_isWhole_87 G l Q)) <| xo_lload (pc := 69) (i := 4) dX14_isWhole_69 <| xo_lconst (pc := 71) dX14_isWhole_71 (by decide) <| xo_iload (pc := 72) (i := 6) dX14_isWhole_72 <| xo_lshl (pc := 74) dX14_isWhole_74 <| xo_lconst (pc := 75) dX14_isWhole_75 (by decide) <| xo_lsub (pc := 76) dX14_isWhole_76 <| xo_land (pc := 77) dX14_isWhole_77 <| xo_lconst (pc := 78) dX14_isWhole_78 (by decide) <| xo_lcmp (pc := 79) dX14_isWhole_79 <| xo_if_ne (pc := 80) (tgt := 87) dX14_isWhole_80 (by decide) ((s_X14_isWhole_87 G l Q)) <| (s_X14_isWhole_83 G l Q)
theorem s_X14_isWhole_27 (G : xG) (l : Launch) (Q : xQ) : xW G l m_X14_isWhole xX0 (xPm G Q r_X14_isWhole) 27 (b_X14_isWhole_27 Q) := xo_lor (pc := 27) dX14_isWhole_27 <| xo_lstore (pc := 28) (i := 4) dX14_isWhole_28 (by decide) <| xo_lload_n (pc := 30) (i := 2) dX14_isWhole_30 rfl <| xo_lconst (pc := 31) dX14_isWhole_31 (by decide) <| xo_lcmp (pc := 32) dX14_isWhole_32 <| xo_if_ne (pc := 33) (tgt := 42) dX14_isWhole_33 (by decide) (xo_ldc2_w (pc := 42) dX14_isWhole_42 kw1510 <| xo_lload_n (pc := 45) (i := 2) dX14_isWhole_45 rfl <| xo_lsub (pc := 46) dX14_isWhole_46 <| (s_X14_isWhole_47 G l Q)) <| xo_ldc2_w (pc := 36) dX14_isWhole_36 kw1509 <| xo_goto (pc := 39) (tgt := 47) dX14_isWhole_39 (by decide) <| (s_X14_isWhole_47 G l Q)
theorem s_X14_isWhole_0 (G : xG) (l : Launch) (Q : xQ) : xW G l m_X14_isWhole xX0 (xPm G Q r_X14_isWhole) 0 (b_X14_isWhole_0 Q) := xo_lload_n (pc := 0) (i := 0) dX14_isWhole_0 rfl <| xo_bipush (pc := 1) dX14_isWhole_1 (by decide) <| xo_lushr (pc := 3) dX14_isWhole_3 <| xo_ldc2_w (pc := 4) dX14_isWhole_4 kw1506 <| xo_land (pc := 7) dX14_isWhole_7 <| xo_lstore_n (pc := 8) (i := 2) dX14_isWhole_8 rfl (by decide) <| xo_lload_n (pc := 9) (i := 0) dX14_isWhole_9 rfl <| xo_ldc2_w (pc := 10) dX14_isWhole_10 kw1507 <| xo_land (pc := 13) dX14_isWhole_13 <| xo_lload_n (pc := 14) (i := 2) dX14_isWhole_14 rfl <| xo_lconst (pc := 15) dX14_isWhole_15 (by decide) <| xo_lcmp (pc := 16) dX14_isWhole_16 <| xo_if_ne (pc := 17) (tgt := 24) dX14_isWhole_17 (by decide) (xo_ldc2_w (pc := 24) dX14_isWhole_24 kw1508 <| (s_X14_isWhole_27 G l Q)) <| xo_lconst (pc := 20) dX14_isWhole_20 (by decide) <| xo_goto (pc := 21) (tgt := 27) dX14_isWhole_21 (by decide) <| (s_X14_isWhole_27 G l Q)

def C_X14_isWhole : xC := fun av S Q => ∃ u : Nat, av = [.long (lN u)] ∧ u < 2 ^ 64 ∧ Q (some (.int (bI (whB u)))) S
set_option maxHeartbeats 2000000 in
theorem cM_X14_isWhole (G : xG) (l : Launch) : xM G l yX14_isWhole cX14_isWhole 7 (some FieldType.boolean) r_X14_isWhole C_X14_isWhole := by
  refine xM_of (fun Q => b_X14_isWhole_0 Q) RX14 false (s_X14_isWhole_0 G l) (by decide) rfl (by decide) ?_
  rintro av S Q ⟨u, rfl, hu, hQ⟩
  refine ⟨Nat.le_of_ble_eq_true rfl, ?_⟩
  have fl := fP_lt u
  have le := fE_lt u
  have hs : -1000 ≤ shI u ∧ shI u ≤ 1074 := by unfold shI; split <;> omega
  have z0 : lN (fP u) = 0 ↔ fP u = 0 := pk_lEQ (b := 0) (by omega) (by decide)
  have b47 : ∀ x, x = lZ (shI u) → b_X14_isWhole_47 Q [(4, .long (lN (fP u))), (2, .long (lN (fE u))), (0, .long (lN u))] [.long x] S := by
    rintro x rfl
    have yes : whB u = true → Q (some (.int 1)) S := fun e => by rw [e] at hQ; exact hQ
    have no : whB u = false → Q (some (.int 0)) S := fun e => by rw [e] at hQ; exact hQ
    simp only [x_c, x_iload, x_lload, x_aload, x_istore, x_lstore, x_astore, x_iinc, x_iadd, x_isub, x_imul, x_iand, x_ior, x_ixor, x_ladd, x_lsub, x_lmul, x_land, x_lor, x_lxor, x_idiv, x_irem, x_ldiv, x_lrem, x_ineg, x_lneg, x_ishl, x_ishr, x_iushr, x_lshl, x_lshr, x_lushr, x_i2l, x_l2i, x_i2b, x_i2c, x_lcmp, x_if_eq, x_if_ne, x_if_lt, x_if_ge, x_if_gt, x_if_le, x_icmp_eq, x_icmp_ne, x_icmp_lt, x_icmp_ge, x_icmp_gt, x_icmp_le, x_dup, x_pop, x_dup_x1, x_dup2, x_iret, x_zret, x_lret, x_aret, x_vret, x_call, x_callv, x_calli, x_oinit, x_mmax, x_mmin, x_mabs, x_mmaxL, x_mminL, x_mabsL, lg_cmp_ge, lg_cmp_le, lg_cmp_gt, lg_cmp_lt, lg_cmp_eq, xlk, xs1, xs2, lv_args, Value.category, List.filter_cons, List.filter_nil, Nat.reduceAdd, Nat.reduceBEq, Nat.reduceEqDiff, Nat.reduceSub, Nat.sub_zero, beq_self_eq_true, Bool.not_true, Bool.not_false, Bool.and_true, Bool.and_false, Bool.true_and, Bool.false_and, reduceIte, reduceCtorEq, Bool.false_eq_true, Nat.one_ne_zero, Nat.zero_ne_one, Nat.zero_add, Option.toList_some, Option.toList_none, List.nil_append, List.cons_append, List.take_succ_cons, List.take_zero, List.take_nil, List.drop_succ_cons, List.drop_zero, List.length_cons, List.length_nil, List.reverse_cons, List.reverse_nil, List.head?_cons, List.map_cons, List.map_nil, List.sum_cons, List.sum_nil, true_and, and_true, List.getElem?_cons_zero, List.getElem?_cons_succ, Prod.eta, x_get, x_put, x_iald, x_iast, x_bald, x_bast, x_lald, x_last, x_alen, xup_s, xup_a1, xup_1a, xup_uu, nr_i, nr_l, nr_o, nr_a, ft_i, ft_l, ft_o, ft_a, Nat.reduceLT, i_cl0, i_cl1, i_n1, i_m1, List.set_cons_zero, List.set_cons_succ, Nat.reduceLeDiff, Nat.le_refl, Nat.zero_le, Nat.add_zero, x_no, x_ifnull, x_ifnonnull, x_acmp_eq, x_acmp_ne, x_swl, x_tsw, x_castC, true_or, or_true, nr_z, ft_z, nr_z0, nr_z1, ft_z0, ft_z1, nr_on, nr_an, ft_on, ft_an, b_X14_isWhole_47, lZ_l2i, z0, iZ_le0 (show -2147483648 ≤ shI u by omega) (show shI u < 2147483648 by omega), b_X14_isWhole_83, b_X14_isWhole_87, b_X14_isWhole_88]
    have e53 : (53 : Int32) ≤ iZ (shI u) ↔ 53 ≤ shI u := iZ_geK 53 (by omega) (by omega) (by decide)
    rw [e53]
    refine ⟨fun z => yes (by unfold whB; rw [z, Nat.zero_mod]; rfl), fun z => ⟨fun y => yes ?_, fun y => ⟨fun x => no ?_, fun x => ?_⟩⟩⟩
    · unfold whB
      rw [show (shI u).toNat = 0 by omega, Nat.pow_zero, Nat.mod_one]
      rfl
    · unfold whB
      rw [Nat.mod_eq_of_lt (Nat.lt_of_lt_of_le fl (Nat.pow_le_pow_right (by decide) (by omega))), decide_eq_false z]
    · have e1 : iZ (shI u) = nI (shI u).toNat := by rw [← iZ_nat]; congr 1; omega
      have e2 : (1 : Int64) <<< ((iZ (shI u)).toInt64 &&& 63) - 1 = lN (2 ^ (shI u).toNat - 1) := by rw [e1]; exact lsh1 (by omega)
      have e3 : lN (fP u) &&& lN (2 ^ (shI u).toNat - 1) = lN (fP u % 2 ^ (shI u).toNat) := wb_mask (by omega) (by omega)
      have e4 : lN (fP u % 2 ^ (shI u).toNat) = 0 ↔ fP u % 2 ^ (shI u).toNat = 0 := pk_lEQ (b := 0) (Nat.lt_of_le_of_lt (Nat.mod_le _ _) (by omega)) (by decide)
      rw [e2, e3, e4]
      exact ⟨fun w => no (decide_eq_false w), fun w => yes (decide_eq_true w)⟩
  have b27 : ∀ v, v = fP u → b_X14_isWhole_27 Q [(2, .long (lN (fE u))), (0, .long (lN u))] [.long (lN (v - fF u)), .long (lN (fF u))] S := by
    rintro v rfl
    have hP : fP u = fF u + (if fE u = 0 then 0 else 2 ^ 52) := by unfold fP; split <;> omega
    have ho : lN (fF u) ||| lN (fP u - fF u) = lN (fP u) := by
      rcases Decidable.em (fE u = 0) with z | z
      · rw [if_pos z] at hP
        rw [show fP u - fF u = 0 by omega, show fP u = fF u by omega, wb_or (by have := fF_lt u; omega) (by decide), Nat.or_zero]
      · rw [if_neg z] at hP
        rw [show fP u - fF u = 2 ^ 52 by omega, show fP u = fF u + 1 * 2 ^ 52 by omega]
        exact l_oF u
    have e5 : (1075 : Int64) - lN (fE u) = lZ (1075 - (fE u : Int)) := by rw [← lZ_nat]; exact lZ_sub 1075 _
    simp only [x_c, x_iload, x_lload, x_aload, x_istore, x_lstore, x_astore, x_iinc, x_iadd, x_isub, x_imul, x_iand, x_ior, x_ixor, x_ladd, x_lsub, x_lmul, x_land, x_lor, x_lxor, x_idiv, x_irem, x_ldiv, x_lrem, x_ineg, x_lneg, x_ishl, x_ishr, x_iushr, x_lshl, x_lshr, x_lushr, x_i2l, x_l2i, x_i2b, x_i2c, x_lcmp, x_if_eq, x_if_ne, x_if_lt, x_if_ge, x_if_gt, x_if_le, x_icmp_eq, x_icmp_ne, x_icmp_lt, x_icmp_ge, x_icmp_gt, x_icmp_le, x_dup, x_pop, x_dup_x1, x_dup2, x_iret, x_zret, x_lret, x_aret, x_vret, x_call, x_callv, x_calli, x_oinit, x_mmax, x_mmin, x_mabs, x_mmaxL, x_mminL, x_mabsL, lg_cmp_ge, lg_cmp_le, lg_cmp_gt, lg_cmp_lt, lg_cmp_eq, xlk, xs1, xs2, lv_args, Value.category, List.filter_cons, List.filter_nil, Nat.reduceAdd, Nat.reduceBEq, Nat.reduceEqDiff, Nat.reduceSub, Nat.sub_zero, beq_self_eq_true, Bool.not_true, Bool.not_false, Bool.and_true, Bool.and_false, Bool.true_and, Bool.false_and, reduceIte, reduceCtorEq, Bool.false_eq_true, Nat.one_ne_zero, Nat.zero_ne_one, Nat.zero_add, Option.toList_some, Option.toList_none, List.nil_append, List.cons_append, List.take_succ_cons, List.take_zero, List.take_nil, List.drop_succ_cons, List.drop_zero, List.length_cons, List.length_nil, List.reverse_cons, List.reverse_nil, List.head?_cons, List.map_cons, List.map_nil, List.sum_cons, List.sum_nil, true_and, and_true, List.getElem?_cons_zero, List.getElem?_cons_succ, Prod.eta, x_get, x_put, x_iald, x_iast, x_bald, x_bast, x_lald, x_last, x_alen, xup_s, xup_a1, xup_1a, xup_uu, nr_i, nr_l, nr_o, nr_a, ft_i, ft_l, ft_o, ft_a, Nat.reduceLT, i_cl0, i_cl1, i_n1, i_m1, List.set_cons_zero, List.set_cons_succ, Nat.reduceLeDiff, Nat.le_refl, Nat.zero_le, Nat.add_zero, x_no, x_ifnull, x_ifnonnull, x_acmp_eq, x_acmp_ne, x_swl, x_tsw, x_castC, true_or, or_true, nr_z, ft_z, nr_z0, nr_z1, ft_z0, ft_z1, nr_on, nr_an, ft_on, ft_an, b_X14_isWhole_27, ho, l_zE, e5]
    exact ⟨fun z => b47 _ (by unfold shI; rw [if_neg z]), fun z => b47 _ (by unfold shI; rw [if_pos z]; decide)⟩
  simp only [x_c, x_iload, x_lload, x_aload, x_istore, x_lstore, x_astore, x_iinc, x_iadd, x_isub, x_imul, x_iand, x_ior, x_ixor, x_ladd, x_lsub, x_lmul, x_land, x_lor, x_lxor, x_idiv, x_irem, x_ldiv, x_lrem, x_ineg, x_lneg, x_ishl, x_ishr, x_iushr, x_lshl, x_lshr, x_lushr, x_i2l, x_l2i, x_i2b, x_i2c, x_lcmp, x_if_eq, x_if_ne, x_if_lt, x_if_ge, x_if_gt, x_if_le, x_icmp_eq, x_icmp_ne, x_icmp_lt, x_icmp_ge, x_icmp_gt, x_icmp_le, x_dup, x_pop, x_dup_x1, x_dup2, x_iret, x_zret, x_lret, x_aret, x_vret, x_call, x_callv, x_calli, x_oinit, x_mmax, x_mmin, x_mabs, x_mmaxL, x_mminL, x_mabsL, lg_cmp_ge, lg_cmp_le, lg_cmp_gt, lg_cmp_lt, lg_cmp_eq, xlk, xs1, xs2, lv_args, Value.category, List.filter_cons, List.filter_nil, Nat.reduceAdd, Nat.reduceBEq, Nat.reduceEqDiff, Nat.reduceSub, Nat.sub_zero, beq_self_eq_true, Bool.not_true, Bool.not_false, Bool.and_true, Bool.and_false, Bool.true_and, Bool.false_and, reduceIte, reduceCtorEq, Bool.false_eq_true, Nat.one_ne_zero, Nat.zero_ne_one, Nat.zero_add, Option.toList_some, Option.toList_none, List.nil_append, List.cons_append, List.take_succ_cons, List.take_zero, List.take_nil, List.drop_succ_cons, List.drop_zero, List.length_cons, List.length_nil, List.reverse_cons, List.reverse_nil, List.head?_cons, List.map_cons, List.map_nil, List.sum_cons, List.sum_nil, true_and, and_true, List.getElem?_cons_zero, List.getElem?_cons_succ, Prod.eta, x_get, x_put, x_iald, x_iast, x_bald, x_bast, x_lald, x_last, x_alen, xup_s, xup_a1, xup_1a, xup_uu, nr_i, nr_l, nr_o, nr_a, ft_i, ft_l, ft_o, ft_a, Nat.reduceLT, i_cl0, i_cl1, i_n1, i_m1, List.set_cons_zero, List.set_cons_succ, Nat.reduceLeDiff, Nat.le_refl, Nat.zero_le, Nat.add_zero, x_no, x_ifnull, x_ifnonnull, x_acmp_eq, x_acmp_ne, x_swl, x_tsw, x_castC, true_or, or_true, nr_z, ft_z, nr_z0, nr_z1, ft_z0, ft_z1, nr_on, nr_an, ft_on, ft_an, b_X14_isWhole_0, l_E hu, l_F hu, l_zE]
  refine ⟨fun z => ?_, fun z => ?_⟩
  · have := b27 _ rfl
    rw [show fP u - fF u = 2 ^ 52 by unfold fP; rw [if_neg z]; omega] at this
    exact this
  · have := b27 _ rfl
    rw [show fP u - fF u = 0 by unfold fP; rw [if_pos z]; omega] at this
    exact this
theorem dX14_isHalf_0 : decode cX14_isHalf 0 = .ok (.lload_n 0, 1) := by decide +kernel
theorem dX14_isHalf_1 : decode cX14_isHalf 1 = .ok (.invokestatic 232, 3) := by decide +kernel
theorem dX14_isHalf_4 : decode cX14_isHalf 4 = .ok (.ifCond .ne 31, 3) := by decide +kernel
theorem dX14_isHalf_7 : decode cX14_isHalf 7 = .ok (.lload_n 0, 1) := by decide +kernel
theorem dX14_isHalf_8 : decode cX14_isHalf 8 = .ok (.ldc2_w 226, 3) := by decide +kernel
theorem dX14_isHalf_11 : decode cX14_isHalf 11 = .ok (.ladd, 1) := by decide +kernel
theorem dX14_isHalf_12 : decode cX14_isHalf 12 = .ok (.invokestatic 232, 3) := by decide +kernel
theorem dX14_isHalf_15 : decode cX14_isHalf 15 = .ok (.ifCond .eq 20, 3) := by decide +kernel
theorem dX14_isHalf_18 : decode cX14_isHalf 18 = .ok (.lload_n 0, 1) := by decide +kernel
theorem dX14_isHalf_19 : decode cX14_isHalf 19 = .ok (.bipush 52, 2) := by decide +kernel
theorem dX14_isHalf_21 : decode cX14_isHalf 21 = .ok (.lushr, 1) := by decide +kernel
theorem dX14_isHalf_22 : decode cX14_isHalf 22 = .ok (.ldc2_w 222, 3) := by decide +kernel
theorem dX14_isHalf_25 : decode cX14_isHalf 25 = .ok (.land, 1) := by decide +kernel
theorem dX14_isHalf_26 : decode cX14_isHalf 26 = .ok (.lconst 0, 1) := by decide +kernel
theorem dX14_isHalf_27 : decode cX14_isHalf 27 = .ok (.lcmp, 1) := by decide +kernel
theorem dX14_isHalf_28 : decode cX14_isHalf 28 = .ok (.ifCond .le 7, 3) := by decide +kernel
theorem dX14_isHalf_31 : decode cX14_isHalf 31 = .ok (.iconst 1, 1) := by decide +kernel
theorem dX14_isHalf_32 : decode cX14_isHalf 32 = .ok (.goto 4, 3) := by decide +kernel
theorem dX14_isHalf_35 : decode cX14_isHalf 35 = .ok (.iconst 0, 1) := by decide +kernel
theorem dX14_isHalf_36 : decode cX14_isHalf 36 = .ok (.ireturn, 1) := by decide +kernel
abbrev r_X14_isHalf : Room := { frames := 1, cells := 0, slots := 0, locals := 26 }
abbrev m_X14_isHalf : xMd := (cX14_isHalf, RX14, 2, (some FieldType.boolean), false, r_X14_isHalf)
def b_X14_isHalf_36 (Q : xQ) : xK := x_zret FieldType.boolean Q
def b_X14_isHalf_35 (Q : xQ) : xK := x_c (.int 0) <| (b_X14_isHalf_36 Q)
def b_X14_isHalf_0 (Q : xQ) : xK := x_lload 0 <| x_call C_X14_isWhole 1 0 0 <| x_if_ne ((b_X14_isHalf_35 Q)) <| x_lload 0 <| x_c (.long 4503599627370496) <| x_ladd <| x_call C_X14_isWhole 1 0 0 <| x_if_eq ((b_X14_isHalf_35 Q)) <| x_lload 0 <| x_c (.int 52) <| x_lushr <| x_c (.long 2047) <| x_land <| x_c (.long 0) <| x_lcmp <| x_if_le ((b_X14_isHalf_35 Q)) <| x_c (.int 1) <| (b_X14_isHalf_36 Q)
theorem s_X14_isHalf_36 (G : xG) (l : Launch) (Q : xQ) : xW G l m_X14_isHalf xX0 (xPm G Q r_X14_isHalf) 36 (b_X14_isHalf_36 Q) := xo_zret (pc := 36) rfl dX14_isHalf_36
theorem s_X14_isHalf_35 (G : xG) (l : Launch) (Q : xQ) : xW G l m_X14_isHalf xX0 (xPm G Q r_X14_isHalf) 35 (b_X14_isHalf_35 Q) := xo_iconst (pc := 35) dX14_isHalf_35 (by decide) <| (s_X14_isHalf_36 G l Q)
theorem s_X14_isHalf_0 (G : xG) (l : Launch) (Q : xQ) : xW G l m_X14_isHalf xX0 (xPm G Q r_X14_isHalf) 0 (b_X14_isHalf_0 Q) := xo_lload_n (pc := 0) (i := 0) dX14_isHalf_0 rfl <| xo_callS (pc := 1) (np := 1) (cM_X14_isWhole G l) dX14_isHalf_1 kw1505 kw1503 kw1504 kw13 (by decide +kernel) (by decide) <| xo_if_ne (pc := 4) (tgt := 35) dX14_isHalf_4 (by decide) ((s_X14_isHalf_35 G l Q)) <| xo_lload_n (pc := 7) (i := 0) dX14_isHalf_7 rfl <| xo_ldc2_w (pc := 8) dX14_isHalf_8 kw1508 <| xo_ladd (pc := 11) dX14_isHalf_11 <| xo_callS (pc := 12) (np := 1) (cM_X14_isWhole G l) dX14_isHalf_12 kw1505 kw1503 kw1504 kw13 (by decide +kernel) (by decide) <| xo_if_eq (pc := 15) (tgt := 35) dX14_isHalf_15 (by decide) ((s_X14_isHalf_35 G l Q)) <| xo_lload_n (pc := 18) (i := 0) dX14_isHalf_18 rfl <| xo_bipush (pc := 19) dX14_isHalf_19 (by decide) <| xo_lushr (pc := 21) dX14_isHalf_21 <| xo_ldc2_w (pc := 22) dX14_isHalf_22 kw1506 <| xo_land (pc := 25) dX14_isHalf_25 <| xo_lconst (pc := 26) dX14_isHalf_26 (by decide) <| xo_lcmp (pc := 27) dX14_isHalf_27 <| xo_if_le (pc := 28) (tgt := 35) dX14_isHalf_28 (by decide) ((s_X14_isHalf_35 G l Q)) <| xo_iconst (pc := 31) dX14_isHalf_31 (by decide) <| xo_goto (pc := 32) (tgt := 36) dX14_isHalf_32 (by decide) <| (s_X14_isHalf_36 G l Q)

def hfB (u : Nat) : Bool := !whB u && whB (u + 2 ^ 52) && decide (0 < fE u)
def C_X14_isHalf : xC := fun av S Q => ∃ u : Nat, av = [.long (lN u)] ∧ u < 2 ^ 64 ∧ u + 2 ^ 52 < 2 ^ 64 ∧ Q (some (.int (bI (hfB u)))) S
theorem cM_X14_isHalf (G : xG) (l : Launch) : xM G l yX14_isHalf cX14_isHalf 2 (some FieldType.boolean) r_X14_isHalf C_X14_isHalf := by
  refine xM_of (fun Q => b_X14_isHalf_0 Q) RX14 false (s_X14_isHalf_0 G l) (by decide) rfl (by decide) ?_
  rintro av S Q ⟨u, rfl, hu, hu2, hQ⟩
  refine ⟨Nat.le_of_ble_eq_true rfl, ?_⟩
  have yes : hfB u = true → Q (some (.int 1)) S := fun e => by rw [e] at hQ; exact hQ
  have no : hfB u = false → Q (some (.int 0)) S := fun e => by rw [e] at hQ; exact hQ
  have e1 : lN u + 4503599627370496 = lN (u + 2 ^ 52) := by
    rw [show (4503599627370496 : Int64) = lN (2 ^ 52) by decide]
    exact lN_add u (2 ^ 52)
  have e2 : lN (fE u) ≤ 0 ↔ fE u = 0 := by
    have := pk_lLE (a := fE u) (b := 0) (by have := fE_lt u; omega) (by decide)
    rw [show (0 : Int64) = lN 0 from rfl, this]
    omega
  simp only [x_c, x_iload, x_lload, x_aload, x_istore, x_lstore, x_astore, x_iinc, x_iadd, x_isub, x_imul, x_iand, x_ior, x_ixor, x_ladd, x_lsub, x_lmul, x_land, x_lor, x_lxor, x_idiv, x_irem, x_ldiv, x_lrem, x_ineg, x_lneg, x_ishl, x_ishr, x_iushr, x_lshl, x_lshr, x_lushr, x_i2l, x_l2i, x_i2b, x_i2c, x_lcmp, x_if_eq, x_if_ne, x_if_lt, x_if_ge, x_if_gt, x_if_le, x_icmp_eq, x_icmp_ne, x_icmp_lt, x_icmp_ge, x_icmp_gt, x_icmp_le, x_dup, x_pop, x_dup_x1, x_dup2, x_iret, x_zret, x_lret, x_aret, x_vret, x_call, x_callv, x_calli, x_oinit, x_mmax, x_mmin, x_mabs, x_mmaxL, x_mminL, x_mabsL, lg_cmp_ge, lg_cmp_le, lg_cmp_gt, lg_cmp_lt, lg_cmp_eq, xlk, xs1, xs2, lv_args, Value.category, List.filter_cons, List.filter_nil, Nat.reduceAdd, Nat.reduceBEq, Nat.reduceEqDiff, Nat.reduceSub, Nat.sub_zero, beq_self_eq_true, Bool.not_true, Bool.not_false, Bool.and_true, Bool.and_false, Bool.true_and, Bool.false_and, reduceIte, reduceCtorEq, Bool.false_eq_true, Nat.one_ne_zero, Nat.zero_ne_one, Nat.zero_add, Option.toList_some, Option.toList_none, List.nil_append, List.cons_append, List.take_succ_cons, List.take_zero, List.take_nil, List.drop_succ_cons, List.drop_zero, List.length_cons, List.length_nil, List.reverse_cons, List.reverse_nil, List.head?_cons, List.map_cons, List.map_nil, List.sum_cons, List.sum_nil, true_and, and_true, List.getElem?_cons_zero, List.getElem?_cons_succ, Prod.eta, x_get, x_put, x_iald, x_iast, x_bald, x_bast, x_lald, x_last, x_alen, xup_s, xup_a1, xup_1a, xup_uu, nr_i, nr_l, nr_o, nr_a, ft_i, ft_l, ft_o, ft_a, Nat.reduceLT, i_cl0, i_cl1, i_n1, i_m1, List.set_cons_zero, List.set_cons_succ, Nat.reduceLeDiff, Nat.le_refl, Nat.zero_le, Nat.add_zero, x_no, x_ifnull, x_ifnonnull, x_acmp_eq, x_acmp_ne, x_swl, x_tsw, x_castC, true_or, or_true, nr_z, ft_z, nr_z0, nr_z1, ft_z0, ft_z1, nr_on, nr_an, ft_on, ft_an, b_X14_isHalf_0, b_X14_isHalf_35, b_X14_isHalf_36]
  refine ⟨u, rfl, hu, ?_⟩
  simp only [x_c, x_iload, x_lload, x_aload, x_istore, x_lstore, x_astore, x_iinc, x_iadd, x_isub, x_imul, x_iand, x_ior, x_ixor, x_ladd, x_lsub, x_lmul, x_land, x_lor, x_lxor, x_idiv, x_irem, x_ldiv, x_lrem, x_ineg, x_lneg, x_ishl, x_ishr, x_iushr, x_lshl, x_lshr, x_lushr, x_i2l, x_l2i, x_i2b, x_i2c, x_lcmp, x_if_eq, x_if_ne, x_if_lt, x_if_ge, x_if_gt, x_if_le, x_icmp_eq, x_icmp_ne, x_icmp_lt, x_icmp_ge, x_icmp_gt, x_icmp_le, x_dup, x_pop, x_dup_x1, x_dup2, x_iret, x_zret, x_lret, x_aret, x_vret, x_call, x_callv, x_calli, x_oinit, x_mmax, x_mmin, x_mabs, x_mmaxL, x_mminL, x_mabsL, lg_cmp_ge, lg_cmp_le, lg_cmp_gt, lg_cmp_lt, lg_cmp_eq, xlk, xs1, xs2, lv_args, Value.category, List.filter_cons, List.filter_nil, Nat.reduceAdd, Nat.reduceBEq, Nat.reduceEqDiff, Nat.reduceSub, Nat.sub_zero, beq_self_eq_true, Bool.not_true, Bool.not_false, Bool.and_true, Bool.and_false, Bool.true_and, Bool.false_and, reduceIte, reduceCtorEq, Bool.false_eq_true, Nat.one_ne_zero, Nat.zero_ne_one, Nat.zero_add, Option.toList_some, Option.toList_none, List.nil_append, List.cons_append, List.take_succ_cons, List.take_zero, List.take_nil, List.drop_succ_cons, List.drop_zero, List.length_cons, List.length_nil, List.reverse_cons, List.reverse_nil, List.head?_cons, List.map_cons, List.map_nil, List.sum_cons, List.sum_nil, true_and, and_true, List.getElem?_cons_zero, List.getElem?_cons_succ, Prod.eta, x_get, x_put, x_iald, x_iast, x_bald, x_bast, x_lald, x_last, x_alen, xup_s, xup_a1, xup_1a, xup_uu, nr_i, nr_l, nr_o, nr_a, ft_i, ft_l, ft_o, ft_a, Nat.reduceLT, i_cl0, i_cl1, i_n1, i_m1, List.set_cons_zero, List.set_cons_succ, Nat.reduceLeDiff, Nat.le_refl, Nat.zero_le, Nat.add_zero, x_no, x_ifnull, x_ifnonnull, x_acmp_eq, x_acmp_ne, x_swl, x_tsw, x_castC, true_or, or_true, nr_z, ft_z, nr_z0, nr_z1, ft_z0, ft_z1, nr_on, nr_an, ft_on, ft_an, bI_e0, e1]
  refine ⟨fun z => no ?_, fun z => ⟨u + 2 ^ 52, rfl, hu2, ?_⟩⟩
  · unfold hfB
    rw [eq_true_of_ne_false z]
    rfl
  · simp only [x_c, x_iload, x_lload, x_aload, x_istore, x_lstore, x_astore, x_iinc, x_iadd, x_isub, x_imul, x_iand, x_ior, x_ixor, x_ladd, x_lsub, x_lmul, x_land, x_lor, x_lxor, x_idiv, x_irem, x_ldiv, x_lrem, x_ineg, x_lneg, x_ishl, x_ishr, x_iushr, x_lshl, x_lshr, x_lushr, x_i2l, x_l2i, x_i2b, x_i2c, x_lcmp, x_if_eq, x_if_ne, x_if_lt, x_if_ge, x_if_gt, x_if_le, x_icmp_eq, x_icmp_ne, x_icmp_lt, x_icmp_ge, x_icmp_gt, x_icmp_le, x_dup, x_pop, x_dup_x1, x_dup2, x_iret, x_zret, x_lret, x_aret, x_vret, x_call, x_callv, x_calli, x_oinit, x_mmax, x_mmin, x_mabs, x_mmaxL, x_mminL, x_mabsL, lg_cmp_ge, lg_cmp_le, lg_cmp_gt, lg_cmp_lt, lg_cmp_eq, xlk, xs1, xs2, lv_args, Value.category, List.filter_cons, List.filter_nil, Nat.reduceAdd, Nat.reduceBEq, Nat.reduceEqDiff, Nat.reduceSub, Nat.sub_zero, beq_self_eq_true, Bool.not_true, Bool.not_false, Bool.and_true, Bool.and_false, Bool.true_and, Bool.false_and, reduceIte, reduceCtorEq, Bool.false_eq_true, Nat.one_ne_zero, Nat.zero_ne_one, Nat.zero_add, Option.toList_some, Option.toList_none, List.nil_append, List.cons_append, List.take_succ_cons, List.take_zero, List.take_nil, List.drop_succ_cons, List.drop_zero, List.length_cons, List.length_nil, List.reverse_cons, List.reverse_nil, List.head?_cons, List.map_cons, List.map_nil, List.sum_cons, List.sum_nil, true_and, and_true, List.getElem?_cons_zero, List.getElem?_cons_succ, Prod.eta, x_get, x_put, x_iald, x_iast, x_bald, x_bast, x_lald, x_last, x_alen, xup_s, xup_a1, xup_1a, xup_uu, nr_i, nr_l, nr_o, nr_a, ft_i, ft_l, ft_o, ft_a, Nat.reduceLT, i_cl0, i_cl1, i_n1, i_m1, List.set_cons_zero, List.set_cons_succ, Nat.reduceLeDiff, Nat.le_refl, Nat.zero_le, Nat.add_zero, x_no, x_ifnull, x_ifnonnull, x_acmp_eq, x_acmp_ne, x_swl, x_tsw, x_castC, true_or, or_true, nr_z, ft_z, nr_z0, nr_z1, ft_z0, ft_z1, nr_on, nr_an, ft_on, ft_an, bI_e0, l_E hu, e2]
    refine ⟨fun y => no ?_, fun y => ⟨fun x => no ?_, fun x => yes ?_⟩⟩
    · unfold hfB
      rw [y, Bool.and_false, Bool.false_and]
    · unfold hfB
      rw [x, decide_eq_false (by decide), Bool.and_false]
    · unfold hfB
      rw [z, eq_true_of_ne_false y, decide_eq_true (by omega)]
      rfl
