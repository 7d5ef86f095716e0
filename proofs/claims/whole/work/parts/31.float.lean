/-! floats by their order: k from -(GREATEST + 1) to GREATEST + 1 -/
def lZ (z : Int) : Int64 := Int64.ofInt z
theorem lZ_toInt {z : Int} (h1 : -9223372036854775808 ≤ z) (h2 : z < 9223372036854775808) : (lZ z).toInt = z := by
  show (Int64.ofInt z).toInt = z
  rw [Int64.toInt_ofInt]
  have e : (Int64.size : Int) = 18446744073709551616 := rfl
  exact Int.bmod_eq_of_le (by rw [e]; omega) (by rw [e]; omega)
theorem lZ_nat (n : Nat) : lZ n = lN n := rfl
theorem lZ_add (a b : Int) : lZ a + lZ b = lZ (a + b) := (Int64.ofInt_add a b).symm
theorem lZ_sub (a b : Int) : lZ a - lZ b = lZ (a - b) := (Int64.ofInt_sub a b).symm
theorem lZ_neg (a : Int) : -lZ a = lZ (-a) := (Int64.ofInt_neg a).symm
theorem lZ_pos {z : Int} (h : 0 ≤ z) : lZ z = lN z.toNat := by rw [← lZ_nat, Int.toNat_of_nonneg h]
/-- the bits of the float of order k -/
def foB (k : Int) : Nat := if k < 0 then 2 ^ 63 + (-k).toNat else k.toNat
theorem foB_lt {k : Int} (h1 : -9223372036854775808 < k) (h2 : k < 9223372036854775808) : foB k < 2 ^ 64 := by
  unfold foB
  split <;> omega
/-- the value of the float of the bits n, n below 2 ^ 63 -/
def fv (n : Nat) : Rat := (fP n : Rat) * p2 (fX n)
def fval (k : Int) : Rat := if k < 0 then -fv (-k).toNat else fv k.toNat
theorem fE_hi (n : Nat) (h : n < 2 ^ 63) : fE (2 ^ 63 + n) = fE n ∧ fF (2 ^ 63 + n) = fF n := by
  unfold fE fF
  omega
theorem fP_hi (n : Nat) (h : n < 2 ^ 63) : fP (2 ^ 63 + n) = fP n ∧ fX (2 ^ 63 + n) = fX n := by
  obtain ⟨a, b⟩ := fE_hi n h
  unfold fP fX
  rw [a, b]
  exact ⟨rfl, rfl⟩
/-- what setFloat of a float's bits leaves has its value -/
theorem nval_fo {k : Int} (h1 : -9223372036854775808 < k) (h2 : k < 9223372036854775808) : nval (decide (2 ^ 63 ≤ foB k)) (fP (foB k)) 1 (fX (foB k)) = fval k := by
  unfold foB fval fv
  rcases Int.lt_or_le k 0 with c | c
  · rw [if_pos c, if_pos c, show decide (2 ^ 63 ≤ 2 ^ 63 + (-k).toNat) = true by simp, nval_t, (fP_hi _ (by omega)).1, (fP_hi _ (by omega)).2]
    grind
  · rw [if_neg (by omega), if_neg (by omega), show decide (2 ^ 63 ≤ k.toNat) = false by simp; omega, nval_f]
    grind
theorem fv_key {E F E' F' T : Nat} (hT : 0 < T) (h : (F = T - 1 ∧ E' = E + 1 ∧ F' = 0) ∨ (E' = E ∧ F' = F + 1)) : (((if E' = 0 then F' else F' + T) : Nat) : Rat) * p2 (if E' = 0 then -1074 else (E' : Int) - 1075) = (((if E = 0 then F else F + T) + 1 : Nat) : Rat) * p2 (if E = 0 then -1074 else (E : Int) - 1075) := by
  rcases h with ⟨rfl, rfl, rfl⟩ | ⟨rfl, rfl⟩
  · rw [if_neg (by omega), if_neg (by omega)]
    rcases Decidable.em (E = 0) with d | d
    · rw [if_pos d, if_pos d, d, show 0 + T = T - 1 + 1 by omega, show (((0 + 1 : Nat) : Int) - 1075) = -1074 by decide]
    · rw [if_neg d, if_neg d, show ((E + 1 : Nat) : Int) - 1075 = 1 + ((E : Int) - 1075) by omega, p2_add, ← Rat.mul_assoc, show p2 1 = 2 from Rat.zpow_one 2, show T - 1 + T + 1 = (0 + T) * 2 by omega, Rat.natCast_mul (0 + T) 2, show ((2 : Nat) : Rat) = 2 from rfl]
  · split
    · rfl
    · rw [show F + 1 + T = F + T + 1 by omega]
theorem fv_succ {n : Nat} (h : n + 1 < 2 ^ 63) : fv (n + 1) = fv n + p2 (fX n) := by
  have hs : (fF n = 2 ^ 52 - 1 ∧ fE (n + 1) = fE n + 1 ∧ fF (n + 1) = 0) ∨ (fE (n + 1) = fE n ∧ fF (n + 1) = fF n + 1) := by
    unfold fE fF
    omega
  have key : fv (n + 1) = ((fP n + 1 : Nat) : Rat) * p2 (fX n) := fv_key (T := 2 ^ 52) (by decide) hs
  rw [key, Rat.natCast_add]
  unfold fv
  grind
theorem fv_lt {m n : Nat} (h : m < n) (hn : n < 2 ^ 63) : fv m < fv n := by
  induction n with
  | zero => omega
  | succ n ih =>
    have e := fv_succ (n := n) (by omega)
    have p := p2_pos (fX n)
    rcases Nat.lt_or_ge m n with c | c
    · have := ih c (by omega)
      grind
    · rw [show m = n by omega]
      grind
theorem fv_0 : fv 0 = 0 := by
  unfold fv
  rw [show fP 0 = 0 by decide]
  simp
theorem fval_lt {a b : Int} (h : a < b) (h1 : -9223372036854775808 < a) (h2 : b < 9223372036854775808) : fval a < fval b := by
  unfold fval
  rcases Int.lt_or_le a 0 with c | c
  · rw [if_pos c]
    rcases Int.lt_or_le b 0 with d | d
    · rw [if_pos d]
      have := fv_lt (show (-b).toNat < (-a).toNat by omega) (by omega)
      grind
    · rw [if_neg (by omega)]
      have k1 := fv_lt (show 0 < (-a).toNat by omega) (by omega)
      rw [fv_0] at k1
      rcases Int.lt_or_le 0 b with d' | d'
      · have k2 := fv_lt (show 0 < b.toNat by omega) (by omega)
        rw [fv_0] at k2
        grind
      · rw [show b.toNat = 0 by omega, fv_0]
        grind
  · rw [if_neg (by omega), if_neg (by omega)]
    exact fv_lt (by omega) (by omega)
theorem fval_0 : fval 0 = 0 := fv_0
theorem fval_neg (k : Int) : fval (-k) = -fval k := by
  unfold fval
  rcases Int.lt_trichotomy k 0 with c | c | c
  · rw [if_neg (by omega), if_pos c]; grind
  · subst c; simp [fv_0]
  · rw [if_pos (by omega), if_neg (by omega), Int.neg_neg]
/-- k is the order of the number x rounded down -/
def dnS (x : Rat) (k : Int) : Prop := (k = -9218868437227405312 ∧ x < fval (-9218868437227405311)) ∨ (-9218868437227405311 ≤ k ∧ k ≤ 9218868437227405311 ∧ fval k ≤ x ∧ (k < 9218868437227405311 → x < fval (k + 1)))
theorem dnS_uniq {x : Rat} {k j : Int} (h1 : dnS x k) (h2 : dnS x j) : k = j := by
  have key : ∀ {k j : Int}, dnS x k → dnS x j → ¬ k < j := by
    intro k j h1 h2 hlt
    rcases h2 with ⟨rfl, b⟩ | ⟨c1, c2, c3, c4⟩
    · rcases h1 with ⟨rfl, -⟩ | ⟨a1, -⟩ <;> omega
    · rcases h1 with ⟨rfl, a2⟩ | ⟨a1, a2, a3, a4⟩
      · rcases Int.lt_or_le (-9218868437227405311) j with q | q
        · have := fval_lt q (by omega) (by omega)
          grind
        · rw [show j = -9218868437227405311 by omega] at c3
          grind
      · have h := a4 (by omega)
        rcases Int.lt_or_le (k + 1) j with q | q
        · have := fval_lt q (by omega) (by omega)
          grind
        · rw [show k + 1 = j by omega] at h
          grind
  have := key h1 h2
  have := key h2 h1
  omega
theorem dX14_floatOf_0 : decode cX14_floatOf 0 = .ok (.lload_n 0, 1) := by decide +kernel
theorem dX14_floatOf_1 : decode cX14_floatOf 1 = .ok (.lconst 0, 1) := by decide +kernel
theorem dX14_floatOf_2 : decode cX14_floatOf 2 = .ok (.lcmp, 1) := by decide +kernel
theorem dX14_floatOf_3 : decode cX14_floatOf 3 = .ok (.ifCond .ge 12, 3) := by decide +kernel
theorem dX14_floatOf_6 : decode cX14_floatOf 6 = .ok (.lload_n 0, 1) := by decide +kernel
theorem dX14_floatOf_7 : decode cX14_floatOf 7 = .ok (.lneg, 1) := by decide +kernel
theorem dX14_floatOf_8 : decode cX14_floatOf 8 = .ok (.ldc2_w 57, 3) := by decide +kernel
theorem dX14_floatOf_11 : decode cX14_floatOf 11 = .ok (.lor, 1) := by decide +kernel
theorem dX14_floatOf_12 : decode cX14_floatOf 12 = .ok (.goto 4, 3) := by decide +kernel
theorem dX14_floatOf_15 : decode cX14_floatOf 15 = .ok (.lload_n 0, 1) := by decide +kernel
theorem dX14_floatOf_16 : decode cX14_floatOf 16 = .ok (.lreturn, 1) := by decide +kernel
abbrev r_X14_floatOf : Room := { frames := 0, cells := 0, slots := 0, locals := 0 }
abbrev m_X14_floatOf : xMd := (cX14_floatOf, RX14, 2, (some FieldType.long), false, r_X14_floatOf)
def b_X14_floatOf_16 (Q : xQ) : xK := x_lret Q
def b_X14_floatOf_0 (Q : xQ) : xK := x_lload 0 <| x_c (.long 0) <| x_lcmp <| x_if_ge (x_lload 0 <| (b_X14_floatOf_16 Q)) <| x_lload 0 <| x_lneg <| x_c (.long (-9223372036854775808)) <| x_lor <| (b_X14_floatOf_16 Q)
theorem s_X14_floatOf_16 (G : xG) (l : Launch) (Q : xQ) : xW G l m_X14_floatOf xX0 (xPm G Q r_X14_floatOf) 16 (b_X14_floatOf_16 Q) := xo_lret (pc := 16) rfl dX14_floatOf_16
theorem s_X14_floatOf_0 (G : xG) (l : Launch) (Q : xQ) : xW G l m_X14_floatOf xX0 (xPm G Q r_X14_floatOf) 0 (b_X14_floatOf_0 Q) := xo_lload_n (pc := 0) (i := 0) dX14_floatOf_0 rfl <| xo_lconst (pc := 1) dX14_floatOf_1 (by decide) <| xo_lcmp (pc := 2) dX14_floatOf_2 <| xo_if_ge (pc := 3) (tgt := 15) dX14_floatOf_3 (by decide) (xo_lload_n (pc := 15) (i := 0) dX14_floatOf_15 rfl <| (s_X14_floatOf_16 G l Q)) <| xo_lload_n (pc := 6) (i := 0) dX14_floatOf_6 rfl <| xo_lneg (pc := 7) dX14_floatOf_7 <| xo_ldc2_w (pc := 8) dX14_floatOf_8 kw1355 <| xo_lor (pc := 11) dX14_floatOf_11 <| xo_goto (pc := 12) (tgt := 16) dX14_floatOf_12 (by decide) <| (s_X14_floatOf_16 G l Q)

def C_X14_floatOf : xC := fun av S Q => ∃ k : Int, av = [.long (lZ k)] ∧ -9223372036854775808 < k ∧ k < 9223372036854775808 ∧ Q (some (.long (lN (foB k)))) S
theorem cM_X14_floatOf (G : xG) (l : Launch) : xM G l yX14_floatOf cX14_floatOf 2 (some FieldType.long) r_X14_floatOf C_X14_floatOf := by
  refine xM_of (fun Q => b_X14_floatOf_0 Q) RX14 false (s_X14_floatOf_0 G l) (by decide) rfl (by decide) ?_
  rintro av S Q ⟨k, rfl, h1, h2, hQ⟩
  refine ⟨Nat.le_of_ble_eq_true rfl, ?_⟩
  have e0 : (0 : Int64) ≤ lZ k ↔ 0 ≤ k := by rw [l_le, lZ_toInt (by omega) h2]; exact Iff.rfl
  simp only [x_c, x_iload, x_lload, x_aload, x_istore, x_lstore, x_astore, x_iinc, x_iadd, x_isub, x_imul, x_iand, x_ior, x_ixor, x_ladd, x_lsub, x_lmul, x_land, x_lor, x_lxor, x_idiv, x_irem, x_ldiv, x_lrem, x_ineg, x_lneg, x_ishl, x_ishr, x_iushr, x_lshl, x_lshr, x_lushr, x_i2l, x_l2i, x_i2b, x_i2c, x_lcmp, x_if_eq, x_if_ne, x_if_lt, x_if_ge, x_if_gt, x_if_le, x_icmp_eq, x_icmp_ne, x_icmp_lt, x_icmp_ge, x_icmp_gt, x_icmp_le, x_dup, x_pop, x_dup_x1, x_dup2, x_iret, x_zret, x_lret, x_aret, x_vret, x_call, x_callv, x_calli, x_oinit, x_mmax, x_mmin, x_mabs, x_mmaxL, x_mminL, x_mabsL, lg_cmp_ge, lg_cmp_le, lg_cmp_gt, lg_cmp_lt, lg_cmp_eq, xlk, xs1, xs2, lv_args, Value.category, List.filter_cons, List.filter_nil, Nat.reduceAdd, Nat.reduceBEq, Nat.reduceEqDiff, Nat.reduceSub, Nat.sub_zero, beq_self_eq_true, Bool.not_true, Bool.not_false, Bool.and_true, Bool.and_false, Bool.true_and, Bool.false_and, reduceIte, reduceCtorEq, Bool.false_eq_true, Nat.one_ne_zero, Nat.zero_ne_one, Nat.zero_add, Option.toList_some, Option.toList_none, List.nil_append, List.cons_append, List.take_succ_cons, List.take_zero, List.take_nil, List.drop_succ_cons, List.drop_zero, List.length_cons, List.length_nil, List.reverse_cons, List.reverse_nil, List.head?_cons, List.map_cons, List.map_nil, List.sum_cons, List.sum_nil, true_and, and_true, List.getElem?_cons_zero, List.getElem?_cons_succ, Prod.eta, x_get, x_put, x_iald, x_iast, x_bald, x_bast, x_lald, x_last, x_alen, xup_s, xup_a1, xup_1a, xup_uu, nr_i, nr_l, nr_o, nr_a, ft_i, ft_l, ft_o, ft_a, Nat.reduceLT, i_cl0, i_cl1, i_n1, i_m1, List.set_cons_zero, List.set_cons_succ, Nat.reduceLeDiff, Nat.le_refl, Nat.zero_le, Nat.add_zero, b_X14_floatOf_0, b_X14_floatOf_16, e0]
  unfold foB at hQ
  refine ⟨fun c => ?_, fun c => ?_⟩
  · rw [if_neg (by omega)] at hQ
    rw [lZ_pos c]; exact hQ
  · rw [if_pos (by omega)] at hQ
    have em : (-9223372036854775808 : Int64) = lN (1 * 2 ^ 63) := by decide
    rw [lZ_neg, lZ_pos (by omega), em, g_or' (k := 63) rfl (by omega) (by omega), Nat.add_comm, Nat.one_mul]
    exact hQ
